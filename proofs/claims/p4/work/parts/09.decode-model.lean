def bR_init_b0 : List Nat := [42, 183, 0, 1, 42, 16, 36, 188, 10, 181, 0, 7, 42, 16, 6, 188, 10, 181, 0, 13, 42, 5, 181, 0, 16, 42, 16, 8, 188, 10, 181, 0, 20, 42, 16, 8, 188, 10, 181, 0, 23, 42, 16, 8, 188, 10, 181, 0, 26, 42, 16, 8, 188, 10, 181, 0, 29, 42, 16, 8, 188, 10, 181, 0, 32, 42, 16, 8, 188, 10, 181, 0, 35, 42, 16, 8, 188, 10, 181, 0, 38, 42, 16, 8, 188, 10, 89, 3, 2, 79, 89, 4, 2, 79, 89, 5, 2, 79, 89, 6, 2, 79]
theorem hR_init_b0 : BL (mcc mR_init) 0 bR_init_b0 := by decide +kernel
theorem dR_init_0 : decode (mcc mR_init) 0 = .ok (.aload_n 0, 1) := o42 (byt_of hR_init_b0 (j := 0) rfl)
theorem dR_init_1 : decode (mcc mR_init) 1 = .ok (.invokespecial 1, 3) := o183 (a := 0) (b := 1) (byt_of hR_init_b0 (j := 1) rfl) (byt_of hR_init_b0 (j := 2) rfl) (byt_of hR_init_b0 (j := 3) rfl) rfl
theorem dR_init_4 : decode (mcc mR_init) 4 = .ok (.aload_n 0, 1) := o42 (byt_of hR_init_b0 (j := 4) rfl)
theorem dR_init_5 : decode (mcc mR_init) 5 = .ok (.bipush 36, 2) := o16 (a := 36) (byt_of hR_init_b0 (j := 5) rfl) (byt_of hR_init_b0 (j := 6) rfl) rfl
theorem dR_init_7 : decode (mcc mR_init) 7 = .ok (.newarray .int, 2) := o188 (byt_of hR_init_b0 (j := 7) rfl) (byt_of hR_init_b0 (j := 8) rfl)
theorem dR_init_9 : decode (mcc mR_init) 9 = .ok (.putfield 7, 3) := o181 (a := 0) (b := 7) (byt_of hR_init_b0 (j := 9) rfl) (byt_of hR_init_b0 (j := 10) rfl) (byt_of hR_init_b0 (j := 11) rfl) rfl
theorem dR_init_12 : decode (mcc mR_init) 12 = .ok (.aload_n 0, 1) := o42 (byt_of hR_init_b0 (j := 12) rfl)
theorem dR_init_13 : decode (mcc mR_init) 13 = .ok (.bipush 6, 2) := o16 (a := 6) (byt_of hR_init_b0 (j := 13) rfl) (byt_of hR_init_b0 (j := 14) rfl) rfl
theorem dR_init_15 : decode (mcc mR_init) 15 = .ok (.newarray .int, 2) := o188 (byt_of hR_init_b0 (j := 15) rfl) (byt_of hR_init_b0 (j := 16) rfl)
theorem dR_init_17 : decode (mcc mR_init) 17 = .ok (.putfield 13, 3) := o181 (a := 0) (b := 13) (byt_of hR_init_b0 (j := 17) rfl) (byt_of hR_init_b0 (j := 18) rfl) (byt_of hR_init_b0 (j := 19) rfl) rfl
theorem dR_init_20 : decode (mcc mR_init) 20 = .ok (.aload_n 0, 1) := o42 (byt_of hR_init_b0 (j := 20) rfl)
theorem dR_init_21 : decode (mcc mR_init) 21 = .ok (.iconst 2, 1) := o5 (byt_of hR_init_b0 (j := 21) rfl)
theorem dR_init_22 : decode (mcc mR_init) 22 = .ok (.putfield 16, 3) := o181 (a := 0) (b := 16) (byt_of hR_init_b0 (j := 22) rfl) (byt_of hR_init_b0 (j := 23) rfl) (byt_of hR_init_b0 (j := 24) rfl) rfl
theorem dR_init_25 : decode (mcc mR_init) 25 = .ok (.aload_n 0, 1) := o42 (byt_of hR_init_b0 (j := 25) rfl)
theorem dR_init_26 : decode (mcc mR_init) 26 = .ok (.bipush 8, 2) := o16 (a := 8) (byt_of hR_init_b0 (j := 26) rfl) (byt_of hR_init_b0 (j := 27) rfl) rfl
theorem dR_init_28 : decode (mcc mR_init) 28 = .ok (.newarray .int, 2) := o188 (byt_of hR_init_b0 (j := 28) rfl) (byt_of hR_init_b0 (j := 29) rfl)
theorem dR_init_30 : decode (mcc mR_init) 30 = .ok (.putfield 20, 3) := o181 (a := 0) (b := 20) (byt_of hR_init_b0 (j := 30) rfl) (byt_of hR_init_b0 (j := 31) rfl) (byt_of hR_init_b0 (j := 32) rfl) rfl
theorem dR_init_33 : decode (mcc mR_init) 33 = .ok (.aload_n 0, 1) := o42 (byt_of hR_init_b0 (j := 33) rfl)
theorem dR_init_34 : decode (mcc mR_init) 34 = .ok (.bipush 8, 2) := o16 (a := 8) (byt_of hR_init_b0 (j := 34) rfl) (byt_of hR_init_b0 (j := 35) rfl) rfl
theorem dR_init_36 : decode (mcc mR_init) 36 = .ok (.newarray .int, 2) := o188 (byt_of hR_init_b0 (j := 36) rfl) (byt_of hR_init_b0 (j := 37) rfl)
theorem dR_init_38 : decode (mcc mR_init) 38 = .ok (.putfield 23, 3) := o181 (a := 0) (b := 23) (byt_of hR_init_b0 (j := 38) rfl) (byt_of hR_init_b0 (j := 39) rfl) (byt_of hR_init_b0 (j := 40) rfl) rfl
theorem dR_init_41 : decode (mcc mR_init) 41 = .ok (.aload_n 0, 1) := o42 (byt_of hR_init_b0 (j := 41) rfl)
theorem dR_init_42 : decode (mcc mR_init) 42 = .ok (.bipush 8, 2) := o16 (a := 8) (byt_of hR_init_b0 (j := 42) rfl) (byt_of hR_init_b0 (j := 43) rfl) rfl
theorem dR_init_44 : decode (mcc mR_init) 44 = .ok (.newarray .int, 2) := o188 (byt_of hR_init_b0 (j := 44) rfl) (byt_of hR_init_b0 (j := 45) rfl)
theorem dR_init_46 : decode (mcc mR_init) 46 = .ok (.putfield 26, 3) := o181 (a := 0) (b := 26) (byt_of hR_init_b0 (j := 46) rfl) (byt_of hR_init_b0 (j := 47) rfl) (byt_of hR_init_b0 (j := 48) rfl) rfl
theorem dR_init_49 : decode (mcc mR_init) 49 = .ok (.aload_n 0, 1) := o42 (byt_of hR_init_b0 (j := 49) rfl)
theorem dR_init_50 : decode (mcc mR_init) 50 = .ok (.bipush 8, 2) := o16 (a := 8) (byt_of hR_init_b0 (j := 50) rfl) (byt_of hR_init_b0 (j := 51) rfl) rfl
theorem dR_init_52 : decode (mcc mR_init) 52 = .ok (.newarray .int, 2) := o188 (byt_of hR_init_b0 (j := 52) rfl) (byt_of hR_init_b0 (j := 53) rfl)
theorem dR_init_54 : decode (mcc mR_init) 54 = .ok (.putfield 29, 3) := o181 (a := 0) (b := 29) (byt_of hR_init_b0 (j := 54) rfl) (byt_of hR_init_b0 (j := 55) rfl) (byt_of hR_init_b0 (j := 56) rfl) rfl
theorem dR_init_57 : decode (mcc mR_init) 57 = .ok (.aload_n 0, 1) := o42 (byt_of hR_init_b0 (j := 57) rfl)
theorem dR_init_58 : decode (mcc mR_init) 58 = .ok (.bipush 8, 2) := o16 (a := 8) (byt_of hR_init_b0 (j := 58) rfl) (byt_of hR_init_b0 (j := 59) rfl) rfl
theorem dR_init_60 : decode (mcc mR_init) 60 = .ok (.newarray .int, 2) := o188 (byt_of hR_init_b0 (j := 60) rfl) (byt_of hR_init_b0 (j := 61) rfl)
theorem dR_init_62 : decode (mcc mR_init) 62 = .ok (.putfield 32, 3) := o181 (a := 0) (b := 32) (byt_of hR_init_b0 (j := 62) rfl) (byt_of hR_init_b0 (j := 63) rfl) (byt_of hR_init_b0 (j := 64) rfl) rfl
theorem dR_init_65 : decode (mcc mR_init) 65 = .ok (.aload_n 0, 1) := o42 (byt_of hR_init_b0 (j := 65) rfl)
theorem dR_init_66 : decode (mcc mR_init) 66 = .ok (.bipush 8, 2) := o16 (a := 8) (byt_of hR_init_b0 (j := 66) rfl) (byt_of hR_init_b0 (j := 67) rfl) rfl
theorem dR_init_68 : decode (mcc mR_init) 68 = .ok (.newarray .int, 2) := o188 (byt_of hR_init_b0 (j := 68) rfl) (byt_of hR_init_b0 (j := 69) rfl)
theorem dR_init_70 : decode (mcc mR_init) 70 = .ok (.putfield 35, 3) := o181 (a := 0) (b := 35) (byt_of hR_init_b0 (j := 70) rfl) (byt_of hR_init_b0 (j := 71) rfl) (byt_of hR_init_b0 (j := 72) rfl) rfl
theorem dR_init_73 : decode (mcc mR_init) 73 = .ok (.aload_n 0, 1) := o42 (byt_of hR_init_b0 (j := 73) rfl)
theorem dR_init_74 : decode (mcc mR_init) 74 = .ok (.bipush 8, 2) := o16 (a := 8) (byt_of hR_init_b0 (j := 74) rfl) (byt_of hR_init_b0 (j := 75) rfl) rfl
theorem dR_init_76 : decode (mcc mR_init) 76 = .ok (.newarray .int, 2) := o188 (byt_of hR_init_b0 (j := 76) rfl) (byt_of hR_init_b0 (j := 77) rfl)
theorem dR_init_78 : decode (mcc mR_init) 78 = .ok (.putfield 38, 3) := o181 (a := 0) (b := 38) (byt_of hR_init_b0 (j := 78) rfl) (byt_of hR_init_b0 (j := 79) rfl) (byt_of hR_init_b0 (j := 80) rfl) rfl
theorem dR_init_81 : decode (mcc mR_init) 81 = .ok (.aload_n 0, 1) := o42 (byt_of hR_init_b0 (j := 81) rfl)
theorem dR_init_82 : decode (mcc mR_init) 82 = .ok (.bipush 8, 2) := o16 (a := 8) (byt_of hR_init_b0 (j := 82) rfl) (byt_of hR_init_b0 (j := 83) rfl) rfl
theorem dR_init_84 : decode (mcc mR_init) 84 = .ok (.newarray .int, 2) := o188 (byt_of hR_init_b0 (j := 84) rfl) (byt_of hR_init_b0 (j := 85) rfl)
theorem dR_init_86 : decode (mcc mR_init) 86 = .ok (.dup, 1) := o89 (byt_of hR_init_b0 (j := 86) rfl)
theorem dR_init_87 : decode (mcc mR_init) 87 = .ok (.iconst 0, 1) := o3 (byt_of hR_init_b0 (j := 87) rfl)
theorem dR_init_88 : decode (mcc mR_init) 88 = .ok (.iconst (-1), 1) := o2 (byt_of hR_init_b0 (j := 88) rfl)
theorem dR_init_89 : decode (mcc mR_init) 89 = .ok (.iastore, 1) := o79 (byt_of hR_init_b0 (j := 89) rfl)
theorem dR_init_90 : decode (mcc mR_init) 90 = .ok (.dup, 1) := o89 (byt_of hR_init_b0 (j := 90) rfl)
theorem dR_init_91 : decode (mcc mR_init) 91 = .ok (.iconst 1, 1) := o4 (byt_of hR_init_b0 (j := 91) rfl)
theorem dR_init_92 : decode (mcc mR_init) 92 = .ok (.iconst (-1), 1) := o2 (byt_of hR_init_b0 (j := 92) rfl)
theorem dR_init_93 : decode (mcc mR_init) 93 = .ok (.iastore, 1) := o79 (byt_of hR_init_b0 (j := 93) rfl)
theorem dR_init_94 : decode (mcc mR_init) 94 = .ok (.dup, 1) := o89 (byt_of hR_init_b0 (j := 94) rfl)
theorem dR_init_95 : decode (mcc mR_init) 95 = .ok (.iconst 2, 1) := o5 (byt_of hR_init_b0 (j := 95) rfl)
def bR_init_b1 : List Nat := [2, 79, 89, 6, 2, 79, 89, 7, 2, 79, 89, 8, 2, 79, 89, 16, 6, 2, 79, 89, 16, 7, 2, 79, 181, 0, 41, 42, 16, 8, 188, 10, 181, 0, 44, 42, 16, 8, 188, 10, 181, 0, 47, 42, 16, 8, 188, 10, 181, 0, 50, 42, 16, 8, 188, 10, 181, 0, 53, 42, 16, 11, 188, 10, 181, 0, 56, 42, 16, 11, 188, 10, 181, 0, 59, 42, 16, 11, 188, 10, 181, 0, 62, 42, 16, 11, 188, 10, 181, 0, 65, 42, 17, 0, 160, 188, 10, 181, 0, 68, 42, 17]
theorem hR_init_b1 : BL (mcc mR_init) 96 bR_init_b1 := by decide +kernel
theorem dR_init_96 : decode (mcc mR_init) 96 = .ok (.iconst (-1), 1) := o2 (byt_of hR_init_b1 (j := 0) rfl)
theorem dR_init_97 : decode (mcc mR_init) 97 = .ok (.iastore, 1) := o79 (byt_of hR_init_b1 (j := 1) rfl)
theorem dR_init_98 : decode (mcc mR_init) 98 = .ok (.dup, 1) := o89 (byt_of hR_init_b1 (j := 2) rfl)
theorem dR_init_99 : decode (mcc mR_init) 99 = .ok (.iconst 3, 1) := o6 (byt_of hR_init_b1 (j := 3) rfl)
theorem dR_init_100 : decode (mcc mR_init) 100 = .ok (.iconst (-1), 1) := o2 (byt_of hR_init_b1 (j := 4) rfl)
theorem dR_init_101 : decode (mcc mR_init) 101 = .ok (.iastore, 1) := o79 (byt_of hR_init_b1 (j := 5) rfl)
theorem dR_init_102 : decode (mcc mR_init) 102 = .ok (.dup, 1) := o89 (byt_of hR_init_b1 (j := 6) rfl)
theorem dR_init_103 : decode (mcc mR_init) 103 = .ok (.iconst 4, 1) := o7 (byt_of hR_init_b1 (j := 7) rfl)
theorem dR_init_104 : decode (mcc mR_init) 104 = .ok (.iconst (-1), 1) := o2 (byt_of hR_init_b1 (j := 8) rfl)
theorem dR_init_105 : decode (mcc mR_init) 105 = .ok (.iastore, 1) := o79 (byt_of hR_init_b1 (j := 9) rfl)
theorem dR_init_106 : decode (mcc mR_init) 106 = .ok (.dup, 1) := o89 (byt_of hR_init_b1 (j := 10) rfl)
theorem dR_init_107 : decode (mcc mR_init) 107 = .ok (.iconst 5, 1) := o8 (byt_of hR_init_b1 (j := 11) rfl)
theorem dR_init_108 : decode (mcc mR_init) 108 = .ok (.iconst (-1), 1) := o2 (byt_of hR_init_b1 (j := 12) rfl)
theorem dR_init_109 : decode (mcc mR_init) 109 = .ok (.iastore, 1) := o79 (byt_of hR_init_b1 (j := 13) rfl)
theorem dR_init_110 : decode (mcc mR_init) 110 = .ok (.dup, 1) := o89 (byt_of hR_init_b1 (j := 14) rfl)
theorem dR_init_111 : decode (mcc mR_init) 111 = .ok (.bipush 6, 2) := o16 (a := 6) (byt_of hR_init_b1 (j := 15) rfl) (byt_of hR_init_b1 (j := 16) rfl) rfl
theorem dR_init_113 : decode (mcc mR_init) 113 = .ok (.iconst (-1), 1) := o2 (byt_of hR_init_b1 (j := 17) rfl)
theorem dR_init_114 : decode (mcc mR_init) 114 = .ok (.iastore, 1) := o79 (byt_of hR_init_b1 (j := 18) rfl)
theorem dR_init_115 : decode (mcc mR_init) 115 = .ok (.dup, 1) := o89 (byt_of hR_init_b1 (j := 19) rfl)
theorem dR_init_116 : decode (mcc mR_init) 116 = .ok (.bipush 7, 2) := o16 (a := 7) (byt_of hR_init_b1 (j := 20) rfl) (byt_of hR_init_b1 (j := 21) rfl) rfl
theorem dR_init_118 : decode (mcc mR_init) 118 = .ok (.iconst (-1), 1) := o2 (byt_of hR_init_b1 (j := 22) rfl)
theorem dR_init_119 : decode (mcc mR_init) 119 = .ok (.iastore, 1) := o79 (byt_of hR_init_b1 (j := 23) rfl)
theorem dR_init_120 : decode (mcc mR_init) 120 = .ok (.putfield 41, 3) := o181 (a := 0) (b := 41) (byt_of hR_init_b1 (j := 24) rfl) (byt_of hR_init_b1 (j := 25) rfl) (byt_of hR_init_b1 (j := 26) rfl) rfl
theorem dR_init_123 : decode (mcc mR_init) 123 = .ok (.aload_n 0, 1) := o42 (byt_of hR_init_b1 (j := 27) rfl)
theorem dR_init_124 : decode (mcc mR_init) 124 = .ok (.bipush 8, 2) := o16 (a := 8) (byt_of hR_init_b1 (j := 28) rfl) (byt_of hR_init_b1 (j := 29) rfl) rfl
theorem dR_init_126 : decode (mcc mR_init) 126 = .ok (.newarray .int, 2) := o188 (byt_of hR_init_b1 (j := 30) rfl) (byt_of hR_init_b1 (j := 31) rfl)
theorem dR_init_128 : decode (mcc mR_init) 128 = .ok (.putfield 44, 3) := o181 (a := 0) (b := 44) (byt_of hR_init_b1 (j := 32) rfl) (byt_of hR_init_b1 (j := 33) rfl) (byt_of hR_init_b1 (j := 34) rfl) rfl
theorem dR_init_131 : decode (mcc mR_init) 131 = .ok (.aload_n 0, 1) := o42 (byt_of hR_init_b1 (j := 35) rfl)
theorem dR_init_132 : decode (mcc mR_init) 132 = .ok (.bipush 8, 2) := o16 (a := 8) (byt_of hR_init_b1 (j := 36) rfl) (byt_of hR_init_b1 (j := 37) rfl) rfl
theorem dR_init_134 : decode (mcc mR_init) 134 = .ok (.newarray .int, 2) := o188 (byt_of hR_init_b1 (j := 38) rfl) (byt_of hR_init_b1 (j := 39) rfl)
theorem dR_init_136 : decode (mcc mR_init) 136 = .ok (.putfield 47, 3) := o181 (a := 0) (b := 47) (byt_of hR_init_b1 (j := 40) rfl) (byt_of hR_init_b1 (j := 41) rfl) (byt_of hR_init_b1 (j := 42) rfl) rfl
theorem dR_init_139 : decode (mcc mR_init) 139 = .ok (.aload_n 0, 1) := o42 (byt_of hR_init_b1 (j := 43) rfl)
theorem dR_init_140 : decode (mcc mR_init) 140 = .ok (.bipush 8, 2) := o16 (a := 8) (byt_of hR_init_b1 (j := 44) rfl) (byt_of hR_init_b1 (j := 45) rfl) rfl
theorem dR_init_142 : decode (mcc mR_init) 142 = .ok (.newarray .int, 2) := o188 (byt_of hR_init_b1 (j := 46) rfl) (byt_of hR_init_b1 (j := 47) rfl)
theorem dR_init_144 : decode (mcc mR_init) 144 = .ok (.putfield 50, 3) := o181 (a := 0) (b := 50) (byt_of hR_init_b1 (j := 48) rfl) (byt_of hR_init_b1 (j := 49) rfl) (byt_of hR_init_b1 (j := 50) rfl) rfl
theorem dR_init_147 : decode (mcc mR_init) 147 = .ok (.aload_n 0, 1) := o42 (byt_of hR_init_b1 (j := 51) rfl)
theorem dR_init_148 : decode (mcc mR_init) 148 = .ok (.bipush 8, 2) := o16 (a := 8) (byt_of hR_init_b1 (j := 52) rfl) (byt_of hR_init_b1 (j := 53) rfl) rfl
theorem dR_init_150 : decode (mcc mR_init) 150 = .ok (.newarray .int, 2) := o188 (byt_of hR_init_b1 (j := 54) rfl) (byt_of hR_init_b1 (j := 55) rfl)
theorem dR_init_152 : decode (mcc mR_init) 152 = .ok (.putfield 53, 3) := o181 (a := 0) (b := 53) (byt_of hR_init_b1 (j := 56) rfl) (byt_of hR_init_b1 (j := 57) rfl) (byt_of hR_init_b1 (j := 58) rfl) rfl
theorem dR_init_155 : decode (mcc mR_init) 155 = .ok (.aload_n 0, 1) := o42 (byt_of hR_init_b1 (j := 59) rfl)
theorem dR_init_156 : decode (mcc mR_init) 156 = .ok (.bipush 11, 2) := o16 (a := 11) (byt_of hR_init_b1 (j := 60) rfl) (byt_of hR_init_b1 (j := 61) rfl) rfl
theorem dR_init_158 : decode (mcc mR_init) 158 = .ok (.newarray .int, 2) := o188 (byt_of hR_init_b1 (j := 62) rfl) (byt_of hR_init_b1 (j := 63) rfl)
theorem dR_init_160 : decode (mcc mR_init) 160 = .ok (.putfield 56, 3) := o181 (a := 0) (b := 56) (byt_of hR_init_b1 (j := 64) rfl) (byt_of hR_init_b1 (j := 65) rfl) (byt_of hR_init_b1 (j := 66) rfl) rfl
theorem dR_init_163 : decode (mcc mR_init) 163 = .ok (.aload_n 0, 1) := o42 (byt_of hR_init_b1 (j := 67) rfl)
theorem dR_init_164 : decode (mcc mR_init) 164 = .ok (.bipush 11, 2) := o16 (a := 11) (byt_of hR_init_b1 (j := 68) rfl) (byt_of hR_init_b1 (j := 69) rfl) rfl
theorem dR_init_166 : decode (mcc mR_init) 166 = .ok (.newarray .int, 2) := o188 (byt_of hR_init_b1 (j := 70) rfl) (byt_of hR_init_b1 (j := 71) rfl)
theorem dR_init_168 : decode (mcc mR_init) 168 = .ok (.putfield 59, 3) := o181 (a := 0) (b := 59) (byt_of hR_init_b1 (j := 72) rfl) (byt_of hR_init_b1 (j := 73) rfl) (byt_of hR_init_b1 (j := 74) rfl) rfl
theorem dR_init_171 : decode (mcc mR_init) 171 = .ok (.aload_n 0, 1) := o42 (byt_of hR_init_b1 (j := 75) rfl)
theorem dR_init_172 : decode (mcc mR_init) 172 = .ok (.bipush 11, 2) := o16 (a := 11) (byt_of hR_init_b1 (j := 76) rfl) (byt_of hR_init_b1 (j := 77) rfl) rfl
theorem dR_init_174 : decode (mcc mR_init) 174 = .ok (.newarray .int, 2) := o188 (byt_of hR_init_b1 (j := 78) rfl) (byt_of hR_init_b1 (j := 79) rfl)
theorem dR_init_176 : decode (mcc mR_init) 176 = .ok (.putfield 62, 3) := o181 (a := 0) (b := 62) (byt_of hR_init_b1 (j := 80) rfl) (byt_of hR_init_b1 (j := 81) rfl) (byt_of hR_init_b1 (j := 82) rfl) rfl
theorem dR_init_179 : decode (mcc mR_init) 179 = .ok (.aload_n 0, 1) := o42 (byt_of hR_init_b1 (j := 83) rfl)
theorem dR_init_180 : decode (mcc mR_init) 180 = .ok (.bipush 11, 2) := o16 (a := 11) (byt_of hR_init_b1 (j := 84) rfl) (byt_of hR_init_b1 (j := 85) rfl) rfl
theorem dR_init_182 : decode (mcc mR_init) 182 = .ok (.newarray .int, 2) := o188 (byt_of hR_init_b1 (j := 86) rfl) (byt_of hR_init_b1 (j := 87) rfl)
theorem dR_init_184 : decode (mcc mR_init) 184 = .ok (.putfield 65, 3) := o181 (a := 0) (b := 65) (byt_of hR_init_b1 (j := 88) rfl) (byt_of hR_init_b1 (j := 89) rfl) (byt_of hR_init_b1 (j := 90) rfl) rfl
theorem dR_init_187 : decode (mcc mR_init) 187 = .ok (.aload_n 0, 1) := o42 (byt_of hR_init_b1 (j := 91) rfl)
theorem dR_init_188 : decode (mcc mR_init) 188 = .ok (.sipush 160, 3) := o17 (a := 0) (b := 160) (byt_of hR_init_b1 (j := 92) rfl) (byt_of hR_init_b1 (j := 93) rfl) (byt_of hR_init_b1 (j := 94) rfl) rfl
theorem dR_init_191 : decode (mcc mR_init) 191 = .ok (.newarray .int, 2) := o188 (byt_of hR_init_b1 (j := 95) rfl) (byt_of hR_init_b1 (j := 96) rfl)
def bR_init_b2 : List Nat := [10, 181, 0, 68, 42, 17, 4, 176, 188, 10, 181, 0, 71, 42, 16, 24, 188, 10, 181, 0, 74, 42, 16, 36, 188, 10, 181, 0, 77, 42, 16, 6, 188, 10, 181, 0, 80, 42, 16, 8, 188, 10, 181, 0, 83, 42, 16, 11, 188, 10, 181, 0, 86, 42, 16, 11, 188, 10, 181, 0, 89, 42, 16, 11, 188, 10, 181, 0, 92, 42, 16, 11, 188, 10, 181, 0, 95, 42, 7, 188, 10, 89, 3, 2, 79, 89, 4, 2, 79, 89, 5, 2, 79, 89, 6, 2, 79, 181, 0, 98, 42, 7]
theorem hR_init_b2 : BL (mcc mR_init) 192 bR_init_b2 := by decide +kernel
theorem dR_init_193 : decode (mcc mR_init) 193 = .ok (.putfield 68, 3) := o181 (a := 0) (b := 68) (byt_of hR_init_b2 (j := 1) rfl) (byt_of hR_init_b2 (j := 2) rfl) (byt_of hR_init_b2 (j := 3) rfl) rfl
theorem dR_init_196 : decode (mcc mR_init) 196 = .ok (.aload_n 0, 1) := o42 (byt_of hR_init_b2 (j := 4) rfl)
theorem dR_init_197 : decode (mcc mR_init) 197 = .ok (.sipush 1200, 3) := o17 (a := 4) (b := 176) (byt_of hR_init_b2 (j := 5) rfl) (byt_of hR_init_b2 (j := 6) rfl) (byt_of hR_init_b2 (j := 7) rfl) rfl
theorem dR_init_200 : decode (mcc mR_init) 200 = .ok (.newarray .int, 2) := o188 (byt_of hR_init_b2 (j := 8) rfl) (byt_of hR_init_b2 (j := 9) rfl)
theorem dR_init_202 : decode (mcc mR_init) 202 = .ok (.putfield 71, 3) := o181 (a := 0) (b := 71) (byt_of hR_init_b2 (j := 10) rfl) (byt_of hR_init_b2 (j := 11) rfl) (byt_of hR_init_b2 (j := 12) rfl) rfl
theorem dR_init_205 : decode (mcc mR_init) 205 = .ok (.aload_n 0, 1) := o42 (byt_of hR_init_b2 (j := 13) rfl)
theorem dR_init_206 : decode (mcc mR_init) 206 = .ok (.bipush 24, 2) := o16 (a := 24) (byt_of hR_init_b2 (j := 14) rfl) (byt_of hR_init_b2 (j := 15) rfl) rfl
theorem dR_init_208 : decode (mcc mR_init) 208 = .ok (.newarray .int, 2) := o188 (byt_of hR_init_b2 (j := 16) rfl) (byt_of hR_init_b2 (j := 17) rfl)
theorem dR_init_210 : decode (mcc mR_init) 210 = .ok (.putfield 74, 3) := o181 (a := 0) (b := 74) (byt_of hR_init_b2 (j := 18) rfl) (byt_of hR_init_b2 (j := 19) rfl) (byt_of hR_init_b2 (j := 20) rfl) rfl
theorem dR_init_213 : decode (mcc mR_init) 213 = .ok (.aload_n 0, 1) := o42 (byt_of hR_init_b2 (j := 21) rfl)
theorem dR_init_214 : decode (mcc mR_init) 214 = .ok (.bipush 36, 2) := o16 (a := 36) (byt_of hR_init_b2 (j := 22) rfl) (byt_of hR_init_b2 (j := 23) rfl) rfl
theorem dR_init_216 : decode (mcc mR_init) 216 = .ok (.newarray .int, 2) := o188 (byt_of hR_init_b2 (j := 24) rfl) (byt_of hR_init_b2 (j := 25) rfl)
theorem dR_init_218 : decode (mcc mR_init) 218 = .ok (.putfield 77, 3) := o181 (a := 0) (b := 77) (byt_of hR_init_b2 (j := 26) rfl) (byt_of hR_init_b2 (j := 27) rfl) (byt_of hR_init_b2 (j := 28) rfl) rfl
theorem dR_init_221 : decode (mcc mR_init) 221 = .ok (.aload_n 0, 1) := o42 (byt_of hR_init_b2 (j := 29) rfl)
theorem dR_init_222 : decode (mcc mR_init) 222 = .ok (.bipush 6, 2) := o16 (a := 6) (byt_of hR_init_b2 (j := 30) rfl) (byt_of hR_init_b2 (j := 31) rfl) rfl
theorem dR_init_224 : decode (mcc mR_init) 224 = .ok (.newarray .int, 2) := o188 (byt_of hR_init_b2 (j := 32) rfl) (byt_of hR_init_b2 (j := 33) rfl)
theorem dR_init_226 : decode (mcc mR_init) 226 = .ok (.putfield 80, 3) := o181 (a := 0) (b := 80) (byt_of hR_init_b2 (j := 34) rfl) (byt_of hR_init_b2 (j := 35) rfl) (byt_of hR_init_b2 (j := 36) rfl) rfl
theorem dR_init_229 : decode (mcc mR_init) 229 = .ok (.aload_n 0, 1) := o42 (byt_of hR_init_b2 (j := 37) rfl)
theorem dR_init_230 : decode (mcc mR_init) 230 = .ok (.bipush 8, 2) := o16 (a := 8) (byt_of hR_init_b2 (j := 38) rfl) (byt_of hR_init_b2 (j := 39) rfl) rfl
theorem dR_init_232 : decode (mcc mR_init) 232 = .ok (.newarray .int, 2) := o188 (byt_of hR_init_b2 (j := 40) rfl) (byt_of hR_init_b2 (j := 41) rfl)
theorem dR_init_234 : decode (mcc mR_init) 234 = .ok (.putfield 83, 3) := o181 (a := 0) (b := 83) (byt_of hR_init_b2 (j := 42) rfl) (byt_of hR_init_b2 (j := 43) rfl) (byt_of hR_init_b2 (j := 44) rfl) rfl
theorem dR_init_237 : decode (mcc mR_init) 237 = .ok (.aload_n 0, 1) := o42 (byt_of hR_init_b2 (j := 45) rfl)
theorem dR_init_238 : decode (mcc mR_init) 238 = .ok (.bipush 11, 2) := o16 (a := 11) (byt_of hR_init_b2 (j := 46) rfl) (byt_of hR_init_b2 (j := 47) rfl) rfl
theorem dR_init_240 : decode (mcc mR_init) 240 = .ok (.newarray .int, 2) := o188 (byt_of hR_init_b2 (j := 48) rfl) (byt_of hR_init_b2 (j := 49) rfl)
theorem dR_init_242 : decode (mcc mR_init) 242 = .ok (.putfield 86, 3) := o181 (a := 0) (b := 86) (byt_of hR_init_b2 (j := 50) rfl) (byt_of hR_init_b2 (j := 51) rfl) (byt_of hR_init_b2 (j := 52) rfl) rfl
theorem dR_init_245 : decode (mcc mR_init) 245 = .ok (.aload_n 0, 1) := o42 (byt_of hR_init_b2 (j := 53) rfl)
theorem dR_init_246 : decode (mcc mR_init) 246 = .ok (.bipush 11, 2) := o16 (a := 11) (byt_of hR_init_b2 (j := 54) rfl) (byt_of hR_init_b2 (j := 55) rfl) rfl
theorem dR_init_248 : decode (mcc mR_init) 248 = .ok (.newarray .int, 2) := o188 (byt_of hR_init_b2 (j := 56) rfl) (byt_of hR_init_b2 (j := 57) rfl)
theorem dR_init_250 : decode (mcc mR_init) 250 = .ok (.putfield 89, 3) := o181 (a := 0) (b := 89) (byt_of hR_init_b2 (j := 58) rfl) (byt_of hR_init_b2 (j := 59) rfl) (byt_of hR_init_b2 (j := 60) rfl) rfl
theorem dR_init_253 : decode (mcc mR_init) 253 = .ok (.aload_n 0, 1) := o42 (byt_of hR_init_b2 (j := 61) rfl)
theorem dR_init_254 : decode (mcc mR_init) 254 = .ok (.bipush 11, 2) := o16 (a := 11) (byt_of hR_init_b2 (j := 62) rfl) (byt_of hR_init_b2 (j := 63) rfl) rfl
theorem dR_init_256 : decode (mcc mR_init) 256 = .ok (.newarray .int, 2) := o188 (byt_of hR_init_b2 (j := 64) rfl) (byt_of hR_init_b2 (j := 65) rfl)
theorem dR_init_258 : decode (mcc mR_init) 258 = .ok (.putfield 92, 3) := o181 (a := 0) (b := 92) (byt_of hR_init_b2 (j := 66) rfl) (byt_of hR_init_b2 (j := 67) rfl) (byt_of hR_init_b2 (j := 68) rfl) rfl
theorem dR_init_261 : decode (mcc mR_init) 261 = .ok (.aload_n 0, 1) := o42 (byt_of hR_init_b2 (j := 69) rfl)
theorem dR_init_262 : decode (mcc mR_init) 262 = .ok (.bipush 11, 2) := o16 (a := 11) (byt_of hR_init_b2 (j := 70) rfl) (byt_of hR_init_b2 (j := 71) rfl) rfl
theorem dR_init_264 : decode (mcc mR_init) 264 = .ok (.newarray .int, 2) := o188 (byt_of hR_init_b2 (j := 72) rfl) (byt_of hR_init_b2 (j := 73) rfl)
theorem dR_init_266 : decode (mcc mR_init) 266 = .ok (.putfield 95, 3) := o181 (a := 0) (b := 95) (byt_of hR_init_b2 (j := 74) rfl) (byt_of hR_init_b2 (j := 75) rfl) (byt_of hR_init_b2 (j := 76) rfl) rfl
theorem dR_init_269 : decode (mcc mR_init) 269 = .ok (.aload_n 0, 1) := o42 (byt_of hR_init_b2 (j := 77) rfl)
theorem dR_init_270 : decode (mcc mR_init) 270 = .ok (.iconst 4, 1) := o7 (byt_of hR_init_b2 (j := 78) rfl)
theorem dR_init_271 : decode (mcc mR_init) 271 = .ok (.newarray .int, 2) := o188 (byt_of hR_init_b2 (j := 79) rfl) (byt_of hR_init_b2 (j := 80) rfl)
theorem dR_init_273 : decode (mcc mR_init) 273 = .ok (.dup, 1) := o89 (byt_of hR_init_b2 (j := 81) rfl)
theorem dR_init_274 : decode (mcc mR_init) 274 = .ok (.iconst 0, 1) := o3 (byt_of hR_init_b2 (j := 82) rfl)
theorem dR_init_275 : decode (mcc mR_init) 275 = .ok (.iconst (-1), 1) := o2 (byt_of hR_init_b2 (j := 83) rfl)
theorem dR_init_276 : decode (mcc mR_init) 276 = .ok (.iastore, 1) := o79 (byt_of hR_init_b2 (j := 84) rfl)
theorem dR_init_277 : decode (mcc mR_init) 277 = .ok (.dup, 1) := o89 (byt_of hR_init_b2 (j := 85) rfl)
theorem dR_init_278 : decode (mcc mR_init) 278 = .ok (.iconst 1, 1) := o4 (byt_of hR_init_b2 (j := 86) rfl)
theorem dR_init_279 : decode (mcc mR_init) 279 = .ok (.iconst (-1), 1) := o2 (byt_of hR_init_b2 (j := 87) rfl)
theorem dR_init_280 : decode (mcc mR_init) 280 = .ok (.iastore, 1) := o79 (byt_of hR_init_b2 (j := 88) rfl)
theorem dR_init_281 : decode (mcc mR_init) 281 = .ok (.dup, 1) := o89 (byt_of hR_init_b2 (j := 89) rfl)
theorem dR_init_282 : decode (mcc mR_init) 282 = .ok (.iconst 2, 1) := o5 (byt_of hR_init_b2 (j := 90) rfl)
theorem dR_init_283 : decode (mcc mR_init) 283 = .ok (.iconst (-1), 1) := o2 (byt_of hR_init_b2 (j := 91) rfl)
theorem dR_init_284 : decode (mcc mR_init) 284 = .ok (.iastore, 1) := o79 (byt_of hR_init_b2 (j := 92) rfl)
theorem dR_init_285 : decode (mcc mR_init) 285 = .ok (.dup, 1) := o89 (byt_of hR_init_b2 (j := 93) rfl)
theorem dR_init_286 : decode (mcc mR_init) 286 = .ok (.iconst 3, 1) := o6 (byt_of hR_init_b2 (j := 94) rfl)
theorem dR_init_287 : decode (mcc mR_init) 287 = .ok (.iconst (-1), 1) := o2 (byt_of hR_init_b2 (j := 95) rfl)
def bR_init_b3 : List Nat := [79, 181, 0, 98, 42, 7, 188, 10, 181, 0, 101, 42, 17, 0, 160, 188, 10, 181, 0, 104, 42, 16, 75, 188, 10, 89, 3, 16, 104, 79, 89, 4, 16, 101, 79, 89, 5, 16, 97, 79, 89, 6, 16, 114, 79, 89, 7, 16, 100, 79, 89, 8, 16, 32, 79, 89, 16, 6, 16, 52, 79, 89, 16, 7, 16, 48, 79, 89, 16, 8, 16, 32, 79, 89, 16, 9, 16, 43, 79, 89, 16, 10, 16, 32, 79, 89, 16, 11, 16, 108, 79, 89, 16, 12, 16, 111, 79, 89, 16, 13, 16, 117]
theorem hR_init_b3 : BL (mcc mR_init) 288 bR_init_b3 := by decide +kernel
theorem dR_init_288 : decode (mcc mR_init) 288 = .ok (.iastore, 1) := o79 (byt_of hR_init_b3 (j := 0) rfl)
theorem dR_init_289 : decode (mcc mR_init) 289 = .ok (.putfield 98, 3) := o181 (a := 0) (b := 98) (byt_of hR_init_b3 (j := 1) rfl) (byt_of hR_init_b3 (j := 2) rfl) (byt_of hR_init_b3 (j := 3) rfl) rfl
theorem dR_init_292 : decode (mcc mR_init) 292 = .ok (.aload_n 0, 1) := o42 (byt_of hR_init_b3 (j := 4) rfl)
theorem dR_init_293 : decode (mcc mR_init) 293 = .ok (.iconst 4, 1) := o7 (byt_of hR_init_b3 (j := 5) rfl)
theorem dR_init_294 : decode (mcc mR_init) 294 = .ok (.newarray .int, 2) := o188 (byt_of hR_init_b3 (j := 6) rfl) (byt_of hR_init_b3 (j := 7) rfl)
theorem dR_init_296 : decode (mcc mR_init) 296 = .ok (.putfield 101, 3) := o181 (a := 0) (b := 101) (byt_of hR_init_b3 (j := 8) rfl) (byt_of hR_init_b3 (j := 9) rfl) (byt_of hR_init_b3 (j := 10) rfl) rfl
theorem dR_init_299 : decode (mcc mR_init) 299 = .ok (.aload_n 0, 1) := o42 (byt_of hR_init_b3 (j := 11) rfl)
theorem dR_init_300 : decode (mcc mR_init) 300 = .ok (.sipush 160, 3) := o17 (a := 0) (b := 160) (byt_of hR_init_b3 (j := 12) rfl) (byt_of hR_init_b3 (j := 13) rfl) (byt_of hR_init_b3 (j := 14) rfl) rfl
theorem dR_init_303 : decode (mcc mR_init) 303 = .ok (.newarray .int, 2) := o188 (byt_of hR_init_b3 (j := 15) rfl) (byt_of hR_init_b3 (j := 16) rfl)
theorem dR_init_305 : decode (mcc mR_init) 305 = .ok (.putfield 104, 3) := o181 (a := 0) (b := 104) (byt_of hR_init_b3 (j := 17) rfl) (byt_of hR_init_b3 (j := 18) rfl) (byt_of hR_init_b3 (j := 19) rfl) rfl
theorem dR_init_308 : decode (mcc mR_init) 308 = .ok (.aload_n 0, 1) := o42 (byt_of hR_init_b3 (j := 20) rfl)
theorem dR_init_309 : decode (mcc mR_init) 309 = .ok (.bipush 75, 2) := o16 (a := 75) (byt_of hR_init_b3 (j := 21) rfl) (byt_of hR_init_b3 (j := 22) rfl) rfl
theorem dR_init_311 : decode (mcc mR_init) 311 = .ok (.newarray .int, 2) := o188 (byt_of hR_init_b3 (j := 23) rfl) (byt_of hR_init_b3 (j := 24) rfl)
theorem dR_init_313 : decode (mcc mR_init) 313 = .ok (.dup, 1) := o89 (byt_of hR_init_b3 (j := 25) rfl)
theorem dR_init_314 : decode (mcc mR_init) 314 = .ok (.iconst 0, 1) := o3 (byt_of hR_init_b3 (j := 26) rfl)
theorem dR_init_315 : decode (mcc mR_init) 315 = .ok (.bipush 104, 2) := o16 (a := 104) (byt_of hR_init_b3 (j := 27) rfl) (byt_of hR_init_b3 (j := 28) rfl) rfl
theorem dR_init_317 : decode (mcc mR_init) 317 = .ok (.iastore, 1) := o79 (byt_of hR_init_b3 (j := 29) rfl)
theorem dR_init_318 : decode (mcc mR_init) 318 = .ok (.dup, 1) := o89 (byt_of hR_init_b3 (j := 30) rfl)
theorem dR_init_319 : decode (mcc mR_init) 319 = .ok (.iconst 1, 1) := o4 (byt_of hR_init_b3 (j := 31) rfl)
theorem dR_init_320 : decode (mcc mR_init) 320 = .ok (.bipush 101, 2) := o16 (a := 101) (byt_of hR_init_b3 (j := 32) rfl) (byt_of hR_init_b3 (j := 33) rfl) rfl
theorem dR_init_322 : decode (mcc mR_init) 322 = .ok (.iastore, 1) := o79 (byt_of hR_init_b3 (j := 34) rfl)
theorem dR_init_323 : decode (mcc mR_init) 323 = .ok (.dup, 1) := o89 (byt_of hR_init_b3 (j := 35) rfl)
theorem dR_init_324 : decode (mcc mR_init) 324 = .ok (.iconst 2, 1) := o5 (byt_of hR_init_b3 (j := 36) rfl)
theorem dR_init_325 : decode (mcc mR_init) 325 = .ok (.bipush 97, 2) := o16 (a := 97) (byt_of hR_init_b3 (j := 37) rfl) (byt_of hR_init_b3 (j := 38) rfl) rfl
theorem dR_init_327 : decode (mcc mR_init) 327 = .ok (.iastore, 1) := o79 (byt_of hR_init_b3 (j := 39) rfl)
theorem dR_init_328 : decode (mcc mR_init) 328 = .ok (.dup, 1) := o89 (byt_of hR_init_b3 (j := 40) rfl)
theorem dR_init_329 : decode (mcc mR_init) 329 = .ok (.iconst 3, 1) := o6 (byt_of hR_init_b3 (j := 41) rfl)
theorem dR_init_330 : decode (mcc mR_init) 330 = .ok (.bipush 114, 2) := o16 (a := 114) (byt_of hR_init_b3 (j := 42) rfl) (byt_of hR_init_b3 (j := 43) rfl) rfl
theorem dR_init_332 : decode (mcc mR_init) 332 = .ok (.iastore, 1) := o79 (byt_of hR_init_b3 (j := 44) rfl)
theorem dR_init_333 : decode (mcc mR_init) 333 = .ok (.dup, 1) := o89 (byt_of hR_init_b3 (j := 45) rfl)
theorem dR_init_334 : decode (mcc mR_init) 334 = .ok (.iconst 4, 1) := o7 (byt_of hR_init_b3 (j := 46) rfl)
theorem dR_init_335 : decode (mcc mR_init) 335 = .ok (.bipush 100, 2) := o16 (a := 100) (byt_of hR_init_b3 (j := 47) rfl) (byt_of hR_init_b3 (j := 48) rfl) rfl
theorem dR_init_337 : decode (mcc mR_init) 337 = .ok (.iastore, 1) := o79 (byt_of hR_init_b3 (j := 49) rfl)
theorem dR_init_338 : decode (mcc mR_init) 338 = .ok (.dup, 1) := o89 (byt_of hR_init_b3 (j := 50) rfl)
theorem dR_init_339 : decode (mcc mR_init) 339 = .ok (.iconst 5, 1) := o8 (byt_of hR_init_b3 (j := 51) rfl)
theorem dR_init_340 : decode (mcc mR_init) 340 = .ok (.bipush 32, 2) := o16 (a := 32) (byt_of hR_init_b3 (j := 52) rfl) (byt_of hR_init_b3 (j := 53) rfl) rfl
theorem dR_init_342 : decode (mcc mR_init) 342 = .ok (.iastore, 1) := o79 (byt_of hR_init_b3 (j := 54) rfl)
theorem dR_init_343 : decode (mcc mR_init) 343 = .ok (.dup, 1) := o89 (byt_of hR_init_b3 (j := 55) rfl)
theorem dR_init_344 : decode (mcc mR_init) 344 = .ok (.bipush 6, 2) := o16 (a := 6) (byt_of hR_init_b3 (j := 56) rfl) (byt_of hR_init_b3 (j := 57) rfl) rfl
theorem dR_init_346 : decode (mcc mR_init) 346 = .ok (.bipush 52, 2) := o16 (a := 52) (byt_of hR_init_b3 (j := 58) rfl) (byt_of hR_init_b3 (j := 59) rfl) rfl
theorem dR_init_348 : decode (mcc mR_init) 348 = .ok (.iastore, 1) := o79 (byt_of hR_init_b3 (j := 60) rfl)
theorem dR_init_349 : decode (mcc mR_init) 349 = .ok (.dup, 1) := o89 (byt_of hR_init_b3 (j := 61) rfl)
theorem dR_init_350 : decode (mcc mR_init) 350 = .ok (.bipush 7, 2) := o16 (a := 7) (byt_of hR_init_b3 (j := 62) rfl) (byt_of hR_init_b3 (j := 63) rfl) rfl
theorem dR_init_352 : decode (mcc mR_init) 352 = .ok (.bipush 48, 2) := o16 (a := 48) (byt_of hR_init_b3 (j := 64) rfl) (byt_of hR_init_b3 (j := 65) rfl) rfl
theorem dR_init_354 : decode (mcc mR_init) 354 = .ok (.iastore, 1) := o79 (byt_of hR_init_b3 (j := 66) rfl)
theorem dR_init_355 : decode (mcc mR_init) 355 = .ok (.dup, 1) := o89 (byt_of hR_init_b3 (j := 67) rfl)
theorem dR_init_356 : decode (mcc mR_init) 356 = .ok (.bipush 8, 2) := o16 (a := 8) (byt_of hR_init_b3 (j := 68) rfl) (byt_of hR_init_b3 (j := 69) rfl) rfl
theorem dR_init_358 : decode (mcc mR_init) 358 = .ok (.bipush 32, 2) := o16 (a := 32) (byt_of hR_init_b3 (j := 70) rfl) (byt_of hR_init_b3 (j := 71) rfl) rfl
theorem dR_init_360 : decode (mcc mR_init) 360 = .ok (.iastore, 1) := o79 (byt_of hR_init_b3 (j := 72) rfl)
theorem dR_init_361 : decode (mcc mR_init) 361 = .ok (.dup, 1) := o89 (byt_of hR_init_b3 (j := 73) rfl)
theorem dR_init_362 : decode (mcc mR_init) 362 = .ok (.bipush 9, 2) := o16 (a := 9) (byt_of hR_init_b3 (j := 74) rfl) (byt_of hR_init_b3 (j := 75) rfl) rfl
theorem dR_init_364 : decode (mcc mR_init) 364 = .ok (.bipush 43, 2) := o16 (a := 43) (byt_of hR_init_b3 (j := 76) rfl) (byt_of hR_init_b3 (j := 77) rfl) rfl
theorem dR_init_366 : decode (mcc mR_init) 366 = .ok (.iastore, 1) := o79 (byt_of hR_init_b3 (j := 78) rfl)
theorem dR_init_367 : decode (mcc mR_init) 367 = .ok (.dup, 1) := o89 (byt_of hR_init_b3 (j := 79) rfl)
theorem dR_init_368 : decode (mcc mR_init) 368 = .ok (.bipush 10, 2) := o16 (a := 10) (byt_of hR_init_b3 (j := 80) rfl) (byt_of hR_init_b3 (j := 81) rfl) rfl
theorem dR_init_370 : decode (mcc mR_init) 370 = .ok (.bipush 32, 2) := o16 (a := 32) (byt_of hR_init_b3 (j := 82) rfl) (byt_of hR_init_b3 (j := 83) rfl) rfl
theorem dR_init_372 : decode (mcc mR_init) 372 = .ok (.iastore, 1) := o79 (byt_of hR_init_b3 (j := 84) rfl)
theorem dR_init_373 : decode (mcc mR_init) 373 = .ok (.dup, 1) := o89 (byt_of hR_init_b3 (j := 85) rfl)
theorem dR_init_374 : decode (mcc mR_init) 374 = .ok (.bipush 11, 2) := o16 (a := 11) (byt_of hR_init_b3 (j := 86) rfl) (byt_of hR_init_b3 (j := 87) rfl) rfl
theorem dR_init_376 : decode (mcc mR_init) 376 = .ok (.bipush 108, 2) := o16 (a := 108) (byt_of hR_init_b3 (j := 88) rfl) (byt_of hR_init_b3 (j := 89) rfl) rfl
theorem dR_init_378 : decode (mcc mR_init) 378 = .ok (.iastore, 1) := o79 (byt_of hR_init_b3 (j := 90) rfl)
theorem dR_init_379 : decode (mcc mR_init) 379 = .ok (.dup, 1) := o89 (byt_of hR_init_b3 (j := 91) rfl)
theorem dR_init_380 : decode (mcc mR_init) 380 = .ok (.bipush 12, 2) := o16 (a := 12) (byt_of hR_init_b3 (j := 92) rfl) (byt_of hR_init_b3 (j := 93) rfl) rfl
theorem dR_init_382 : decode (mcc mR_init) 382 = .ok (.bipush 111, 2) := o16 (a := 111) (byt_of hR_init_b3 (j := 94) rfl) (byt_of hR_init_b3 (j := 95) rfl) rfl
def bR_init_b4 : List Nat := [79, 89, 16, 13, 16, 117, 79, 89, 16, 14, 16, 100, 79, 89, 16, 15, 16, 32, 79, 89, 16, 16, 16, 42, 79, 89, 16, 17, 16, 32, 79, 89, 16, 18, 16, 49, 79, 89, 16, 19, 16, 50, 79, 89, 16, 20, 16, 32, 79, 89, 16, 21, 16, 45, 79, 89, 16, 22, 16, 32, 79, 89, 16, 23, 16, 102, 79, 89, 16, 24, 16, 97, 79, 89, 16, 25, 16, 114, 79, 89, 16, 26, 16, 32, 79, 89, 16, 27, 16, 42, 79, 89, 16, 28, 16, 32, 79, 89, 16, 29, 16, 49]
theorem hR_init_b4 : BL (mcc mR_init) 384 bR_init_b4 := by decide +kernel
theorem dR_init_384 : decode (mcc mR_init) 384 = .ok (.iastore, 1) := o79 (byt_of hR_init_b4 (j := 0) rfl)
theorem dR_init_385 : decode (mcc mR_init) 385 = .ok (.dup, 1) := o89 (byt_of hR_init_b4 (j := 1) rfl)
theorem dR_init_386 : decode (mcc mR_init) 386 = .ok (.bipush 13, 2) := o16 (a := 13) (byt_of hR_init_b4 (j := 2) rfl) (byt_of hR_init_b4 (j := 3) rfl) rfl
theorem dR_init_388 : decode (mcc mR_init) 388 = .ok (.bipush 117, 2) := o16 (a := 117) (byt_of hR_init_b4 (j := 4) rfl) (byt_of hR_init_b4 (j := 5) rfl) rfl
theorem dR_init_390 : decode (mcc mR_init) 390 = .ok (.iastore, 1) := o79 (byt_of hR_init_b4 (j := 6) rfl)
theorem dR_init_391 : decode (mcc mR_init) 391 = .ok (.dup, 1) := o89 (byt_of hR_init_b4 (j := 7) rfl)
theorem dR_init_392 : decode (mcc mR_init) 392 = .ok (.bipush 14, 2) := o16 (a := 14) (byt_of hR_init_b4 (j := 8) rfl) (byt_of hR_init_b4 (j := 9) rfl) rfl
theorem dR_init_394 : decode (mcc mR_init) 394 = .ok (.bipush 100, 2) := o16 (a := 100) (byt_of hR_init_b4 (j := 10) rfl) (byt_of hR_init_b4 (j := 11) rfl) rfl
theorem dR_init_396 : decode (mcc mR_init) 396 = .ok (.iastore, 1) := o79 (byt_of hR_init_b4 (j := 12) rfl)
theorem dR_init_397 : decode (mcc mR_init) 397 = .ok (.dup, 1) := o89 (byt_of hR_init_b4 (j := 13) rfl)
theorem dR_init_398 : decode (mcc mR_init) 398 = .ok (.bipush 15, 2) := o16 (a := 15) (byt_of hR_init_b4 (j := 14) rfl) (byt_of hR_init_b4 (j := 15) rfl) rfl
theorem dR_init_400 : decode (mcc mR_init) 400 = .ok (.bipush 32, 2) := o16 (a := 32) (byt_of hR_init_b4 (j := 16) rfl) (byt_of hR_init_b4 (j := 17) rfl) rfl
theorem dR_init_402 : decode (mcc mR_init) 402 = .ok (.iastore, 1) := o79 (byt_of hR_init_b4 (j := 18) rfl)
theorem dR_init_403 : decode (mcc mR_init) 403 = .ok (.dup, 1) := o89 (byt_of hR_init_b4 (j := 19) rfl)
theorem dR_init_404 : decode (mcc mR_init) 404 = .ok (.bipush 16, 2) := o16 (a := 16) (byt_of hR_init_b4 (j := 20) rfl) (byt_of hR_init_b4 (j := 21) rfl) rfl
theorem dR_init_406 : decode (mcc mR_init) 406 = .ok (.bipush 42, 2) := o16 (a := 42) (byt_of hR_init_b4 (j := 22) rfl) (byt_of hR_init_b4 (j := 23) rfl) rfl
theorem dR_init_408 : decode (mcc mR_init) 408 = .ok (.iastore, 1) := o79 (byt_of hR_init_b4 (j := 24) rfl)
theorem dR_init_409 : decode (mcc mR_init) 409 = .ok (.dup, 1) := o89 (byt_of hR_init_b4 (j := 25) rfl)
theorem dR_init_410 : decode (mcc mR_init) 410 = .ok (.bipush 17, 2) := o16 (a := 17) (byt_of hR_init_b4 (j := 26) rfl) (byt_of hR_init_b4 (j := 27) rfl) rfl
theorem dR_init_412 : decode (mcc mR_init) 412 = .ok (.bipush 32, 2) := o16 (a := 32) (byt_of hR_init_b4 (j := 28) rfl) (byt_of hR_init_b4 (j := 29) rfl) rfl
theorem dR_init_414 : decode (mcc mR_init) 414 = .ok (.iastore, 1) := o79 (byt_of hR_init_b4 (j := 30) rfl)
theorem dR_init_415 : decode (mcc mR_init) 415 = .ok (.dup, 1) := o89 (byt_of hR_init_b4 (j := 31) rfl)
theorem dR_init_416 : decode (mcc mR_init) 416 = .ok (.bipush 18, 2) := o16 (a := 18) (byt_of hR_init_b4 (j := 32) rfl) (byt_of hR_init_b4 (j := 33) rfl) rfl
theorem dR_init_418 : decode (mcc mR_init) 418 = .ok (.bipush 49, 2) := o16 (a := 49) (byt_of hR_init_b4 (j := 34) rfl) (byt_of hR_init_b4 (j := 35) rfl) rfl
theorem dR_init_420 : decode (mcc mR_init) 420 = .ok (.iastore, 1) := o79 (byt_of hR_init_b4 (j := 36) rfl)
theorem dR_init_421 : decode (mcc mR_init) 421 = .ok (.dup, 1) := o89 (byt_of hR_init_b4 (j := 37) rfl)
theorem dR_init_422 : decode (mcc mR_init) 422 = .ok (.bipush 19, 2) := o16 (a := 19) (byt_of hR_init_b4 (j := 38) rfl) (byt_of hR_init_b4 (j := 39) rfl) rfl
theorem dR_init_424 : decode (mcc mR_init) 424 = .ok (.bipush 50, 2) := o16 (a := 50) (byt_of hR_init_b4 (j := 40) rfl) (byt_of hR_init_b4 (j := 41) rfl) rfl
theorem dR_init_426 : decode (mcc mR_init) 426 = .ok (.iastore, 1) := o79 (byt_of hR_init_b4 (j := 42) rfl)
theorem dR_init_427 : decode (mcc mR_init) 427 = .ok (.dup, 1) := o89 (byt_of hR_init_b4 (j := 43) rfl)
theorem dR_init_428 : decode (mcc mR_init) 428 = .ok (.bipush 20, 2) := o16 (a := 20) (byt_of hR_init_b4 (j := 44) rfl) (byt_of hR_init_b4 (j := 45) rfl) rfl
theorem dR_init_430 : decode (mcc mR_init) 430 = .ok (.bipush 32, 2) := o16 (a := 32) (byt_of hR_init_b4 (j := 46) rfl) (byt_of hR_init_b4 (j := 47) rfl) rfl
theorem dR_init_432 : decode (mcc mR_init) 432 = .ok (.iastore, 1) := o79 (byt_of hR_init_b4 (j := 48) rfl)
theorem dR_init_433 : decode (mcc mR_init) 433 = .ok (.dup, 1) := o89 (byt_of hR_init_b4 (j := 49) rfl)
theorem dR_init_434 : decode (mcc mR_init) 434 = .ok (.bipush 21, 2) := o16 (a := 21) (byt_of hR_init_b4 (j := 50) rfl) (byt_of hR_init_b4 (j := 51) rfl) rfl
theorem dR_init_436 : decode (mcc mR_init) 436 = .ok (.bipush 45, 2) := o16 (a := 45) (byt_of hR_init_b4 (j := 52) rfl) (byt_of hR_init_b4 (j := 53) rfl) rfl
theorem dR_init_438 : decode (mcc mR_init) 438 = .ok (.iastore, 1) := o79 (byt_of hR_init_b4 (j := 54) rfl)
theorem dR_init_439 : decode (mcc mR_init) 439 = .ok (.dup, 1) := o89 (byt_of hR_init_b4 (j := 55) rfl)
theorem dR_init_440 : decode (mcc mR_init) 440 = .ok (.bipush 22, 2) := o16 (a := 22) (byt_of hR_init_b4 (j := 56) rfl) (byt_of hR_init_b4 (j := 57) rfl) rfl
theorem dR_init_442 : decode (mcc mR_init) 442 = .ok (.bipush 32, 2) := o16 (a := 32) (byt_of hR_init_b4 (j := 58) rfl) (byt_of hR_init_b4 (j := 59) rfl) rfl
theorem dR_init_444 : decode (mcc mR_init) 444 = .ok (.iastore, 1) := o79 (byt_of hR_init_b4 (j := 60) rfl)
theorem dR_init_445 : decode (mcc mR_init) 445 = .ok (.dup, 1) := o89 (byt_of hR_init_b4 (j := 61) rfl)
theorem dR_init_446 : decode (mcc mR_init) 446 = .ok (.bipush 23, 2) := o16 (a := 23) (byt_of hR_init_b4 (j := 62) rfl) (byt_of hR_init_b4 (j := 63) rfl) rfl
theorem dR_init_448 : decode (mcc mR_init) 448 = .ok (.bipush 102, 2) := o16 (a := 102) (byt_of hR_init_b4 (j := 64) rfl) (byt_of hR_init_b4 (j := 65) rfl) rfl
theorem dR_init_450 : decode (mcc mR_init) 450 = .ok (.iastore, 1) := o79 (byt_of hR_init_b4 (j := 66) rfl)
theorem dR_init_451 : decode (mcc mR_init) 451 = .ok (.dup, 1) := o89 (byt_of hR_init_b4 (j := 67) rfl)
theorem dR_init_452 : decode (mcc mR_init) 452 = .ok (.bipush 24, 2) := o16 (a := 24) (byt_of hR_init_b4 (j := 68) rfl) (byt_of hR_init_b4 (j := 69) rfl) rfl
theorem dR_init_454 : decode (mcc mR_init) 454 = .ok (.bipush 97, 2) := o16 (a := 97) (byt_of hR_init_b4 (j := 70) rfl) (byt_of hR_init_b4 (j := 71) rfl) rfl
theorem dR_init_456 : decode (mcc mR_init) 456 = .ok (.iastore, 1) := o79 (byt_of hR_init_b4 (j := 72) rfl)
theorem dR_init_457 : decode (mcc mR_init) 457 = .ok (.dup, 1) := o89 (byt_of hR_init_b4 (j := 73) rfl)
theorem dR_init_458 : decode (mcc mR_init) 458 = .ok (.bipush 25, 2) := o16 (a := 25) (byt_of hR_init_b4 (j := 74) rfl) (byt_of hR_init_b4 (j := 75) rfl) rfl
theorem dR_init_460 : decode (mcc mR_init) 460 = .ok (.bipush 114, 2) := o16 (a := 114) (byt_of hR_init_b4 (j := 76) rfl) (byt_of hR_init_b4 (j := 77) rfl) rfl
theorem dR_init_462 : decode (mcc mR_init) 462 = .ok (.iastore, 1) := o79 (byt_of hR_init_b4 (j := 78) rfl)
theorem dR_init_463 : decode (mcc mR_init) 463 = .ok (.dup, 1) := o89 (byt_of hR_init_b4 (j := 79) rfl)
theorem dR_init_464 : decode (mcc mR_init) 464 = .ok (.bipush 26, 2) := o16 (a := 26) (byt_of hR_init_b4 (j := 80) rfl) (byt_of hR_init_b4 (j := 81) rfl) rfl
theorem dR_init_466 : decode (mcc mR_init) 466 = .ok (.bipush 32, 2) := o16 (a := 32) (byt_of hR_init_b4 (j := 82) rfl) (byt_of hR_init_b4 (j := 83) rfl) rfl
theorem dR_init_468 : decode (mcc mR_init) 468 = .ok (.iastore, 1) := o79 (byt_of hR_init_b4 (j := 84) rfl)
theorem dR_init_469 : decode (mcc mR_init) 469 = .ok (.dup, 1) := o89 (byt_of hR_init_b4 (j := 85) rfl)
theorem dR_init_470 : decode (mcc mR_init) 470 = .ok (.bipush 27, 2) := o16 (a := 27) (byt_of hR_init_b4 (j := 86) rfl) (byt_of hR_init_b4 (j := 87) rfl) rfl
theorem dR_init_472 : decode (mcc mR_init) 472 = .ok (.bipush 42, 2) := o16 (a := 42) (byt_of hR_init_b4 (j := 88) rfl) (byt_of hR_init_b4 (j := 89) rfl) rfl
theorem dR_init_474 : decode (mcc mR_init) 474 = .ok (.iastore, 1) := o79 (byt_of hR_init_b4 (j := 90) rfl)
theorem dR_init_475 : decode (mcc mR_init) 475 = .ok (.dup, 1) := o89 (byt_of hR_init_b4 (j := 91) rfl)
theorem dR_init_476 : decode (mcc mR_init) 476 = .ok (.bipush 28, 2) := o16 (a := 28) (byt_of hR_init_b4 (j := 92) rfl) (byt_of hR_init_b4 (j := 93) rfl) rfl
theorem dR_init_478 : decode (mcc mR_init) 478 = .ok (.bipush 32, 2) := o16 (a := 32) (byt_of hR_init_b4 (j := 94) rfl) (byt_of hR_init_b4 (j := 95) rfl) rfl
def bR_init_b5 : List Nat := [79, 89, 16, 29, 16, 49, 79, 89, 16, 30, 16, 53, 79, 89, 16, 31, 16, 32, 79, 89, 16, 32, 16, 43, 79, 89, 16, 33, 16, 32, 79, 89, 16, 34, 16, 101, 79, 89, 16, 35, 16, 97, 79, 89, 16, 36, 16, 114, 79, 89, 16, 37, 16, 32, 79, 89, 16, 38, 16, 42, 79, 89, 16, 39, 16, 32, 79, 89, 16, 40, 16, 51, 79, 89, 16, 41, 16, 32, 79, 89, 16, 42, 16, 59, 79, 89, 16, 43, 16, 32, 79, 89, 16, 44, 16, 115, 79, 89, 16, 45, 16, 104]
theorem hR_init_b5 : BL (mcc mR_init) 480 bR_init_b5 := by decide +kernel
theorem dR_init_480 : decode (mcc mR_init) 480 = .ok (.iastore, 1) := o79 (byt_of hR_init_b5 (j := 0) rfl)
theorem dR_init_481 : decode (mcc mR_init) 481 = .ok (.dup, 1) := o89 (byt_of hR_init_b5 (j := 1) rfl)
theorem dR_init_482 : decode (mcc mR_init) 482 = .ok (.bipush 29, 2) := o16 (a := 29) (byt_of hR_init_b5 (j := 2) rfl) (byt_of hR_init_b5 (j := 3) rfl) rfl
theorem dR_init_484 : decode (mcc mR_init) 484 = .ok (.bipush 49, 2) := o16 (a := 49) (byt_of hR_init_b5 (j := 4) rfl) (byt_of hR_init_b5 (j := 5) rfl) rfl
theorem dR_init_486 : decode (mcc mR_init) 486 = .ok (.iastore, 1) := o79 (byt_of hR_init_b5 (j := 6) rfl)
theorem dR_init_487 : decode (mcc mR_init) 487 = .ok (.dup, 1) := o89 (byt_of hR_init_b5 (j := 7) rfl)
theorem dR_init_488 : decode (mcc mR_init) 488 = .ok (.bipush 30, 2) := o16 (a := 30) (byt_of hR_init_b5 (j := 8) rfl) (byt_of hR_init_b5 (j := 9) rfl) rfl
theorem dR_init_490 : decode (mcc mR_init) 490 = .ok (.bipush 53, 2) := o16 (a := 53) (byt_of hR_init_b5 (j := 10) rfl) (byt_of hR_init_b5 (j := 11) rfl) rfl
theorem dR_init_492 : decode (mcc mR_init) 492 = .ok (.iastore, 1) := o79 (byt_of hR_init_b5 (j := 12) rfl)
theorem dR_init_493 : decode (mcc mR_init) 493 = .ok (.dup, 1) := o89 (byt_of hR_init_b5 (j := 13) rfl)
theorem dR_init_494 : decode (mcc mR_init) 494 = .ok (.bipush 31, 2) := o16 (a := 31) (byt_of hR_init_b5 (j := 14) rfl) (byt_of hR_init_b5 (j := 15) rfl) rfl
theorem dR_init_496 : decode (mcc mR_init) 496 = .ok (.bipush 32, 2) := o16 (a := 32) (byt_of hR_init_b5 (j := 16) rfl) (byt_of hR_init_b5 (j := 17) rfl) rfl
theorem dR_init_498 : decode (mcc mR_init) 498 = .ok (.iastore, 1) := o79 (byt_of hR_init_b5 (j := 18) rfl)
theorem dR_init_499 : decode (mcc mR_init) 499 = .ok (.dup, 1) := o89 (byt_of hR_init_b5 (j := 19) rfl)
theorem dR_init_500 : decode (mcc mR_init) 500 = .ok (.bipush 32, 2) := o16 (a := 32) (byt_of hR_init_b5 (j := 20) rfl) (byt_of hR_init_b5 (j := 21) rfl) rfl
theorem dR_init_502 : decode (mcc mR_init) 502 = .ok (.bipush 43, 2) := o16 (a := 43) (byt_of hR_init_b5 (j := 22) rfl) (byt_of hR_init_b5 (j := 23) rfl) rfl
theorem dR_init_504 : decode (mcc mR_init) 504 = .ok (.iastore, 1) := o79 (byt_of hR_init_b5 (j := 24) rfl)
theorem dR_init_505 : decode (mcc mR_init) 505 = .ok (.dup, 1) := o89 (byt_of hR_init_b5 (j := 25) rfl)
theorem dR_init_506 : decode (mcc mR_init) 506 = .ok (.bipush 33, 2) := o16 (a := 33) (byt_of hR_init_b5 (j := 26) rfl) (byt_of hR_init_b5 (j := 27) rfl) rfl
theorem dR_init_508 : decode (mcc mR_init) 508 = .ok (.bipush 32, 2) := o16 (a := 32) (byt_of hR_init_b5 (j := 28) rfl) (byt_of hR_init_b5 (j := 29) rfl) rfl
theorem dR_init_510 : decode (mcc mR_init) 510 = .ok (.iastore, 1) := o79 (byt_of hR_init_b5 (j := 30) rfl)
theorem dR_init_511 : decode (mcc mR_init) 511 = .ok (.dup, 1) := o89 (byt_of hR_init_b5 (j := 31) rfl)
theorem dR_init_512 : decode (mcc mR_init) 512 = .ok (.bipush 34, 2) := o16 (a := 34) (byt_of hR_init_b5 (j := 32) rfl) (byt_of hR_init_b5 (j := 33) rfl) rfl
theorem dR_init_514 : decode (mcc mR_init) 514 = .ok (.bipush 101, 2) := o16 (a := 101) (byt_of hR_init_b5 (j := 34) rfl) (byt_of hR_init_b5 (j := 35) rfl) rfl
theorem dR_init_516 : decode (mcc mR_init) 516 = .ok (.iastore, 1) := o79 (byt_of hR_init_b5 (j := 36) rfl)
theorem dR_init_517 : decode (mcc mR_init) 517 = .ok (.dup, 1) := o89 (byt_of hR_init_b5 (j := 37) rfl)
theorem dR_init_518 : decode (mcc mR_init) 518 = .ok (.bipush 35, 2) := o16 (a := 35) (byt_of hR_init_b5 (j := 38) rfl) (byt_of hR_init_b5 (j := 39) rfl) rfl
theorem dR_init_520 : decode (mcc mR_init) 520 = .ok (.bipush 97, 2) := o16 (a := 97) (byt_of hR_init_b5 (j := 40) rfl) (byt_of hR_init_b5 (j := 41) rfl) rfl
theorem dR_init_522 : decode (mcc mR_init) 522 = .ok (.iastore, 1) := o79 (byt_of hR_init_b5 (j := 42) rfl)
theorem dR_init_523 : decode (mcc mR_init) 523 = .ok (.dup, 1) := o89 (byt_of hR_init_b5 (j := 43) rfl)
theorem dR_init_524 : decode (mcc mR_init) 524 = .ok (.bipush 36, 2) := o16 (a := 36) (byt_of hR_init_b5 (j := 44) rfl) (byt_of hR_init_b5 (j := 45) rfl) rfl
theorem dR_init_526 : decode (mcc mR_init) 526 = .ok (.bipush 114, 2) := o16 (a := 114) (byt_of hR_init_b5 (j := 46) rfl) (byt_of hR_init_b5 (j := 47) rfl) rfl
theorem dR_init_528 : decode (mcc mR_init) 528 = .ok (.iastore, 1) := o79 (byt_of hR_init_b5 (j := 48) rfl)
theorem dR_init_529 : decode (mcc mR_init) 529 = .ok (.dup, 1) := o89 (byt_of hR_init_b5 (j := 49) rfl)
theorem dR_init_530 : decode (mcc mR_init) 530 = .ok (.bipush 37, 2) := o16 (a := 37) (byt_of hR_init_b5 (j := 50) rfl) (byt_of hR_init_b5 (j := 51) rfl) rfl
theorem dR_init_532 : decode (mcc mR_init) 532 = .ok (.bipush 32, 2) := o16 (a := 32) (byt_of hR_init_b5 (j := 52) rfl) (byt_of hR_init_b5 (j := 53) rfl) rfl
theorem dR_init_534 : decode (mcc mR_init) 534 = .ok (.iastore, 1) := o79 (byt_of hR_init_b5 (j := 54) rfl)
theorem dR_init_535 : decode (mcc mR_init) 535 = .ok (.dup, 1) := o89 (byt_of hR_init_b5 (j := 55) rfl)
theorem dR_init_536 : decode (mcc mR_init) 536 = .ok (.bipush 38, 2) := o16 (a := 38) (byt_of hR_init_b5 (j := 56) rfl) (byt_of hR_init_b5 (j := 57) rfl) rfl
theorem dR_init_538 : decode (mcc mR_init) 538 = .ok (.bipush 42, 2) := o16 (a := 42) (byt_of hR_init_b5 (j := 58) rfl) (byt_of hR_init_b5 (j := 59) rfl) rfl
theorem dR_init_540 : decode (mcc mR_init) 540 = .ok (.iastore, 1) := o79 (byt_of hR_init_b5 (j := 60) rfl)
theorem dR_init_541 : decode (mcc mR_init) 541 = .ok (.dup, 1) := o89 (byt_of hR_init_b5 (j := 61) rfl)
theorem dR_init_542 : decode (mcc mR_init) 542 = .ok (.bipush 39, 2) := o16 (a := 39) (byt_of hR_init_b5 (j := 62) rfl) (byt_of hR_init_b5 (j := 63) rfl) rfl
theorem dR_init_544 : decode (mcc mR_init) 544 = .ok (.bipush 32, 2) := o16 (a := 32) (byt_of hR_init_b5 (j := 64) rfl) (byt_of hR_init_b5 (j := 65) rfl) rfl
theorem dR_init_546 : decode (mcc mR_init) 546 = .ok (.iastore, 1) := o79 (byt_of hR_init_b5 (j := 66) rfl)
theorem dR_init_547 : decode (mcc mR_init) 547 = .ok (.dup, 1) := o89 (byt_of hR_init_b5 (j := 67) rfl)
theorem dR_init_548 : decode (mcc mR_init) 548 = .ok (.bipush 40, 2) := o16 (a := 40) (byt_of hR_init_b5 (j := 68) rfl) (byt_of hR_init_b5 (j := 69) rfl) rfl
theorem dR_init_550 : decode (mcc mR_init) 550 = .ok (.bipush 51, 2) := o16 (a := 51) (byt_of hR_init_b5 (j := 70) rfl) (byt_of hR_init_b5 (j := 71) rfl) rfl
theorem dR_init_552 : decode (mcc mR_init) 552 = .ok (.iastore, 1) := o79 (byt_of hR_init_b5 (j := 72) rfl)
theorem dR_init_553 : decode (mcc mR_init) 553 = .ok (.dup, 1) := o89 (byt_of hR_init_b5 (j := 73) rfl)
theorem dR_init_554 : decode (mcc mR_init) 554 = .ok (.bipush 41, 2) := o16 (a := 41) (byt_of hR_init_b5 (j := 74) rfl) (byt_of hR_init_b5 (j := 75) rfl) rfl
theorem dR_init_556 : decode (mcc mR_init) 556 = .ok (.bipush 32, 2) := o16 (a := 32) (byt_of hR_init_b5 (j := 76) rfl) (byt_of hR_init_b5 (j := 77) rfl) rfl
theorem dR_init_558 : decode (mcc mR_init) 558 = .ok (.iastore, 1) := o79 (byt_of hR_init_b5 (j := 78) rfl)
theorem dR_init_559 : decode (mcc mR_init) 559 = .ok (.dup, 1) := o89 (byt_of hR_init_b5 (j := 79) rfl)
theorem dR_init_560 : decode (mcc mR_init) 560 = .ok (.bipush 42, 2) := o16 (a := 42) (byt_of hR_init_b5 (j := 80) rfl) (byt_of hR_init_b5 (j := 81) rfl) rfl
theorem dR_init_562 : decode (mcc mR_init) 562 = .ok (.bipush 59, 2) := o16 (a := 59) (byt_of hR_init_b5 (j := 82) rfl) (byt_of hR_init_b5 (j := 83) rfl) rfl
theorem dR_init_564 : decode (mcc mR_init) 564 = .ok (.iastore, 1) := o79 (byt_of hR_init_b5 (j := 84) rfl)
theorem dR_init_565 : decode (mcc mR_init) 565 = .ok (.dup, 1) := o89 (byt_of hR_init_b5 (j := 85) rfl)
theorem dR_init_566 : decode (mcc mR_init) 566 = .ok (.bipush 43, 2) := o16 (a := 43) (byt_of hR_init_b5 (j := 86) rfl) (byt_of hR_init_b5 (j := 87) rfl) rfl
theorem dR_init_568 : decode (mcc mR_init) 568 = .ok (.bipush 32, 2) := o16 (a := 32) (byt_of hR_init_b5 (j := 88) rfl) (byt_of hR_init_b5 (j := 89) rfl) rfl
theorem dR_init_570 : decode (mcc mR_init) 570 = .ok (.iastore, 1) := o79 (byt_of hR_init_b5 (j := 90) rfl)
theorem dR_init_571 : decode (mcc mR_init) 571 = .ok (.dup, 1) := o89 (byt_of hR_init_b5 (j := 91) rfl)
theorem dR_init_572 : decode (mcc mR_init) 572 = .ok (.bipush 44, 2) := o16 (a := 44) (byt_of hR_init_b5 (j := 92) rfl) (byt_of hR_init_b5 (j := 93) rfl) rfl
theorem dR_init_574 : decode (mcc mR_init) 574 = .ok (.bipush 115, 2) := o16 (a := 115) (byt_of hR_init_b5 (j := 94) rfl) (byt_of hR_init_b5 (j := 95) rfl) rfl
def bR_init_b6 : List Nat := [79, 89, 16, 45, 16, 104, 79, 89, 16, 46, 16, 97, 79, 89, 16, 47, 16, 114, 79, 89, 16, 48, 16, 101, 79, 89, 16, 49, 16, 32, 79, 89, 16, 50, 16, 110, 79, 89, 16, 51, 16, 101, 79, 89, 16, 52, 16, 101, 79, 89, 16, 53, 16, 100, 79, 89, 16, 54, 16, 32, 79, 89, 16, 55, 16, 59, 79, 89, 16, 56, 16, 32, 79, 89, 16, 57, 16, 112, 79, 89, 16, 58, 16, 97, 79, 89, 16, 59, 16, 105, 79, 89, 16, 60, 16, 110, 79, 89, 16, 61, 16, 32]
theorem hR_init_b6 : BL (mcc mR_init) 576 bR_init_b6 := by decide +kernel
theorem dR_init_576 : decode (mcc mR_init) 576 = .ok (.iastore, 1) := o79 (byt_of hR_init_b6 (j := 0) rfl)
theorem dR_init_577 : decode (mcc mR_init) 577 = .ok (.dup, 1) := o89 (byt_of hR_init_b6 (j := 1) rfl)
theorem dR_init_578 : decode (mcc mR_init) 578 = .ok (.bipush 45, 2) := o16 (a := 45) (byt_of hR_init_b6 (j := 2) rfl) (byt_of hR_init_b6 (j := 3) rfl) rfl
theorem dR_init_580 : decode (mcc mR_init) 580 = .ok (.bipush 104, 2) := o16 (a := 104) (byt_of hR_init_b6 (j := 4) rfl) (byt_of hR_init_b6 (j := 5) rfl) rfl
theorem dR_init_582 : decode (mcc mR_init) 582 = .ok (.iastore, 1) := o79 (byt_of hR_init_b6 (j := 6) rfl)
theorem dR_init_583 : decode (mcc mR_init) 583 = .ok (.dup, 1) := o89 (byt_of hR_init_b6 (j := 7) rfl)
theorem dR_init_584 : decode (mcc mR_init) 584 = .ok (.bipush 46, 2) := o16 (a := 46) (byt_of hR_init_b6 (j := 8) rfl) (byt_of hR_init_b6 (j := 9) rfl) rfl
theorem dR_init_586 : decode (mcc mR_init) 586 = .ok (.bipush 97, 2) := o16 (a := 97) (byt_of hR_init_b6 (j := 10) rfl) (byt_of hR_init_b6 (j := 11) rfl) rfl
theorem dR_init_588 : decode (mcc mR_init) 588 = .ok (.iastore, 1) := o79 (byt_of hR_init_b6 (j := 12) rfl)
theorem dR_init_589 : decode (mcc mR_init) 589 = .ok (.dup, 1) := o89 (byt_of hR_init_b6 (j := 13) rfl)
theorem dR_init_590 : decode (mcc mR_init) 590 = .ok (.bipush 47, 2) := o16 (a := 47) (byt_of hR_init_b6 (j := 14) rfl) (byt_of hR_init_b6 (j := 15) rfl) rfl
theorem dR_init_592 : decode (mcc mR_init) 592 = .ok (.bipush 114, 2) := o16 (a := 114) (byt_of hR_init_b6 (j := 16) rfl) (byt_of hR_init_b6 (j := 17) rfl) rfl
theorem dR_init_594 : decode (mcc mR_init) 594 = .ok (.iastore, 1) := o79 (byt_of hR_init_b6 (j := 18) rfl)
theorem dR_init_595 : decode (mcc mR_init) 595 = .ok (.dup, 1) := o89 (byt_of hR_init_b6 (j := 19) rfl)
theorem dR_init_596 : decode (mcc mR_init) 596 = .ok (.bipush 48, 2) := o16 (a := 48) (byt_of hR_init_b6 (j := 20) rfl) (byt_of hR_init_b6 (j := 21) rfl) rfl
theorem dR_init_598 : decode (mcc mR_init) 598 = .ok (.bipush 101, 2) := o16 (a := 101) (byt_of hR_init_b6 (j := 22) rfl) (byt_of hR_init_b6 (j := 23) rfl) rfl
theorem dR_init_600 : decode (mcc mR_init) 600 = .ok (.iastore, 1) := o79 (byt_of hR_init_b6 (j := 24) rfl)
theorem dR_init_601 : decode (mcc mR_init) 601 = .ok (.dup, 1) := o89 (byt_of hR_init_b6 (j := 25) rfl)
theorem dR_init_602 : decode (mcc mR_init) 602 = .ok (.bipush 49, 2) := o16 (a := 49) (byt_of hR_init_b6 (j := 26) rfl) (byt_of hR_init_b6 (j := 27) rfl) rfl
theorem dR_init_604 : decode (mcc mR_init) 604 = .ok (.bipush 32, 2) := o16 (a := 32) (byt_of hR_init_b6 (j := 28) rfl) (byt_of hR_init_b6 (j := 29) rfl) rfl
theorem dR_init_606 : decode (mcc mR_init) 606 = .ok (.iastore, 1) := o79 (byt_of hR_init_b6 (j := 30) rfl)
theorem dR_init_607 : decode (mcc mR_init) 607 = .ok (.dup, 1) := o89 (byt_of hR_init_b6 (j := 31) rfl)
theorem dR_init_608 : decode (mcc mR_init) 608 = .ok (.bipush 50, 2) := o16 (a := 50) (byt_of hR_init_b6 (j := 32) rfl) (byt_of hR_init_b6 (j := 33) rfl) rfl
theorem dR_init_610 : decode (mcc mR_init) 610 = .ok (.bipush 110, 2) := o16 (a := 110) (byt_of hR_init_b6 (j := 34) rfl) (byt_of hR_init_b6 (j := 35) rfl) rfl
theorem dR_init_612 : decode (mcc mR_init) 612 = .ok (.iastore, 1) := o79 (byt_of hR_init_b6 (j := 36) rfl)
theorem dR_init_613 : decode (mcc mR_init) 613 = .ok (.dup, 1) := o89 (byt_of hR_init_b6 (j := 37) rfl)
theorem dR_init_614 : decode (mcc mR_init) 614 = .ok (.bipush 51, 2) := o16 (a := 51) (byt_of hR_init_b6 (j := 38) rfl) (byt_of hR_init_b6 (j := 39) rfl) rfl
theorem dR_init_616 : decode (mcc mR_init) 616 = .ok (.bipush 101, 2) := o16 (a := 101) (byt_of hR_init_b6 (j := 40) rfl) (byt_of hR_init_b6 (j := 41) rfl) rfl
theorem dR_init_618 : decode (mcc mR_init) 618 = .ok (.iastore, 1) := o79 (byt_of hR_init_b6 (j := 42) rfl)
theorem dR_init_619 : decode (mcc mR_init) 619 = .ok (.dup, 1) := o89 (byt_of hR_init_b6 (j := 43) rfl)
theorem dR_init_620 : decode (mcc mR_init) 620 = .ok (.bipush 52, 2) := o16 (a := 52) (byt_of hR_init_b6 (j := 44) rfl) (byt_of hR_init_b6 (j := 45) rfl) rfl
theorem dR_init_622 : decode (mcc mR_init) 622 = .ok (.bipush 101, 2) := o16 (a := 101) (byt_of hR_init_b6 (j := 46) rfl) (byt_of hR_init_b6 (j := 47) rfl) rfl
theorem dR_init_624 : decode (mcc mR_init) 624 = .ok (.iastore, 1) := o79 (byt_of hR_init_b6 (j := 48) rfl)
theorem dR_init_625 : decode (mcc mR_init) 625 = .ok (.dup, 1) := o89 (byt_of hR_init_b6 (j := 49) rfl)
theorem dR_init_626 : decode (mcc mR_init) 626 = .ok (.bipush 53, 2) := o16 (a := 53) (byt_of hR_init_b6 (j := 50) rfl) (byt_of hR_init_b6 (j := 51) rfl) rfl
theorem dR_init_628 : decode (mcc mR_init) 628 = .ok (.bipush 100, 2) := o16 (a := 100) (byt_of hR_init_b6 (j := 52) rfl) (byt_of hR_init_b6 (j := 53) rfl) rfl
theorem dR_init_630 : decode (mcc mR_init) 630 = .ok (.iastore, 1) := o79 (byt_of hR_init_b6 (j := 54) rfl)
theorem dR_init_631 : decode (mcc mR_init) 631 = .ok (.dup, 1) := o89 (byt_of hR_init_b6 (j := 55) rfl)
theorem dR_init_632 : decode (mcc mR_init) 632 = .ok (.bipush 54, 2) := o16 (a := 54) (byt_of hR_init_b6 (j := 56) rfl) (byt_of hR_init_b6 (j := 57) rfl) rfl
theorem dR_init_634 : decode (mcc mR_init) 634 = .ok (.bipush 32, 2) := o16 (a := 32) (byt_of hR_init_b6 (j := 58) rfl) (byt_of hR_init_b6 (j := 59) rfl) rfl
theorem dR_init_636 : decode (mcc mR_init) 636 = .ok (.iastore, 1) := o79 (byt_of hR_init_b6 (j := 60) rfl)
theorem dR_init_637 : decode (mcc mR_init) 637 = .ok (.dup, 1) := o89 (byt_of hR_init_b6 (j := 61) rfl)
theorem dR_init_638 : decode (mcc mR_init) 638 = .ok (.bipush 55, 2) := o16 (a := 55) (byt_of hR_init_b6 (j := 62) rfl) (byt_of hR_init_b6 (j := 63) rfl) rfl
theorem dR_init_640 : decode (mcc mR_init) 640 = .ok (.bipush 59, 2) := o16 (a := 59) (byt_of hR_init_b6 (j := 64) rfl) (byt_of hR_init_b6 (j := 65) rfl) rfl
theorem dR_init_642 : decode (mcc mR_init) 642 = .ok (.iastore, 1) := o79 (byt_of hR_init_b6 (j := 66) rfl)
theorem dR_init_643 : decode (mcc mR_init) 643 = .ok (.dup, 1) := o89 (byt_of hR_init_b6 (j := 67) rfl)
theorem dR_init_644 : decode (mcc mR_init) 644 = .ok (.bipush 56, 2) := o16 (a := 56) (byt_of hR_init_b6 (j := 68) rfl) (byt_of hR_init_b6 (j := 69) rfl) rfl
theorem dR_init_646 : decode (mcc mR_init) 646 = .ok (.bipush 32, 2) := o16 (a := 32) (byt_of hR_init_b6 (j := 70) rfl) (byt_of hR_init_b6 (j := 71) rfl) rfl
theorem dR_init_648 : decode (mcc mR_init) 648 = .ok (.iastore, 1) := o79 (byt_of hR_init_b6 (j := 72) rfl)
theorem dR_init_649 : decode (mcc mR_init) 649 = .ok (.dup, 1) := o89 (byt_of hR_init_b6 (j := 73) rfl)
theorem dR_init_650 : decode (mcc mR_init) 650 = .ok (.bipush 57, 2) := o16 (a := 57) (byt_of hR_init_b6 (j := 74) rfl) (byt_of hR_init_b6 (j := 75) rfl) rfl
theorem dR_init_652 : decode (mcc mR_init) 652 = .ok (.bipush 112, 2) := o16 (a := 112) (byt_of hR_init_b6 (j := 76) rfl) (byt_of hR_init_b6 (j := 77) rfl) rfl
theorem dR_init_654 : decode (mcc mR_init) 654 = .ok (.iastore, 1) := o79 (byt_of hR_init_b6 (j := 78) rfl)
theorem dR_init_655 : decode (mcc mR_init) 655 = .ok (.dup, 1) := o89 (byt_of hR_init_b6 (j := 79) rfl)
theorem dR_init_656 : decode (mcc mR_init) 656 = .ok (.bipush 58, 2) := o16 (a := 58) (byt_of hR_init_b6 (j := 80) rfl) (byt_of hR_init_b6 (j := 81) rfl) rfl
theorem dR_init_658 : decode (mcc mR_init) 658 = .ok (.bipush 97, 2) := o16 (a := 97) (byt_of hR_init_b6 (j := 82) rfl) (byt_of hR_init_b6 (j := 83) rfl) rfl
theorem dR_init_660 : decode (mcc mR_init) 660 = .ok (.iastore, 1) := o79 (byt_of hR_init_b6 (j := 84) rfl)
theorem dR_init_661 : decode (mcc mR_init) 661 = .ok (.dup, 1) := o89 (byt_of hR_init_b6 (j := 85) rfl)
theorem dR_init_662 : decode (mcc mR_init) 662 = .ok (.bipush 59, 2) := o16 (a := 59) (byt_of hR_init_b6 (j := 86) rfl) (byt_of hR_init_b6 (j := 87) rfl) rfl
theorem dR_init_664 : decode (mcc mR_init) 664 = .ok (.bipush 105, 2) := o16 (a := 105) (byt_of hR_init_b6 (j := 88) rfl) (byt_of hR_init_b6 (j := 89) rfl) rfl
theorem dR_init_666 : decode (mcc mR_init) 666 = .ok (.iastore, 1) := o79 (byt_of hR_init_b6 (j := 90) rfl)
theorem dR_init_667 : decode (mcc mR_init) 667 = .ok (.dup, 1) := o89 (byt_of hR_init_b6 (j := 91) rfl)
theorem dR_init_668 : decode (mcc mR_init) 668 = .ok (.bipush 60, 2) := o16 (a := 60) (byt_of hR_init_b6 (j := 92) rfl) (byt_of hR_init_b6 (j := 93) rfl) rfl
theorem dR_init_670 : decode (mcc mR_init) 670 = .ok (.bipush 110, 2) := o16 (a := 110) (byt_of hR_init_b6 (j := 94) rfl) (byt_of hR_init_b6 (j := 95) rfl) rfl
def bR_init_b7 : List Nat := [79, 89, 16, 61, 16, 32, 79, 89, 16, 62, 16, 110, 79, 89, 16, 63, 16, 101, 79, 89, 16, 64, 16, 101, 79, 89, 16, 65, 16, 100, 79, 89, 16, 66, 16, 32, 79, 89, 16, 67, 16, 42, 79, 89, 16, 68, 16, 32, 79, 89, 16, 69, 16, 98, 79, 89, 16, 70, 16, 97, 79, 89, 16, 71, 16, 115, 79, 89, 16, 72, 16, 101, 79, 89, 16, 73, 16, 32, 79, 89, 16, 74, 16, 59, 79, 181, 0, 107, 42, 16, 96, 188, 10, 89, 3, 16, 104, 79, 89, 4, 16, 101]
theorem hR_init_b7 : BL (mcc mR_init) 672 bR_init_b7 := by decide +kernel
theorem dR_init_672 : decode (mcc mR_init) 672 = .ok (.iastore, 1) := o79 (byt_of hR_init_b7 (j := 0) rfl)
theorem dR_init_673 : decode (mcc mR_init) 673 = .ok (.dup, 1) := o89 (byt_of hR_init_b7 (j := 1) rfl)
theorem dR_init_674 : decode (mcc mR_init) 674 = .ok (.bipush 61, 2) := o16 (a := 61) (byt_of hR_init_b7 (j := 2) rfl) (byt_of hR_init_b7 (j := 3) rfl) rfl
theorem dR_init_676 : decode (mcc mR_init) 676 = .ok (.bipush 32, 2) := o16 (a := 32) (byt_of hR_init_b7 (j := 4) rfl) (byt_of hR_init_b7 (j := 5) rfl) rfl
theorem dR_init_678 : decode (mcc mR_init) 678 = .ok (.iastore, 1) := o79 (byt_of hR_init_b7 (j := 6) rfl)
theorem dR_init_679 : decode (mcc mR_init) 679 = .ok (.dup, 1) := o89 (byt_of hR_init_b7 (j := 7) rfl)
theorem dR_init_680 : decode (mcc mR_init) 680 = .ok (.bipush 62, 2) := o16 (a := 62) (byt_of hR_init_b7 (j := 8) rfl) (byt_of hR_init_b7 (j := 9) rfl) rfl
theorem dR_init_682 : decode (mcc mR_init) 682 = .ok (.bipush 110, 2) := o16 (a := 110) (byt_of hR_init_b7 (j := 10) rfl) (byt_of hR_init_b7 (j := 11) rfl) rfl
theorem dR_init_684 : decode (mcc mR_init) 684 = .ok (.iastore, 1) := o79 (byt_of hR_init_b7 (j := 12) rfl)
theorem dR_init_685 : decode (mcc mR_init) 685 = .ok (.dup, 1) := o89 (byt_of hR_init_b7 (j := 13) rfl)
theorem dR_init_686 : decode (mcc mR_init) 686 = .ok (.bipush 63, 2) := o16 (a := 63) (byt_of hR_init_b7 (j := 14) rfl) (byt_of hR_init_b7 (j := 15) rfl) rfl
theorem dR_init_688 : decode (mcc mR_init) 688 = .ok (.bipush 101, 2) := o16 (a := 101) (byt_of hR_init_b7 (j := 16) rfl) (byt_of hR_init_b7 (j := 17) rfl) rfl
theorem dR_init_690 : decode (mcc mR_init) 690 = .ok (.iastore, 1) := o79 (byt_of hR_init_b7 (j := 18) rfl)
theorem dR_init_691 : decode (mcc mR_init) 691 = .ok (.dup, 1) := o89 (byt_of hR_init_b7 (j := 19) rfl)
theorem dR_init_692 : decode (mcc mR_init) 692 = .ok (.bipush 64, 2) := o16 (a := 64) (byt_of hR_init_b7 (j := 20) rfl) (byt_of hR_init_b7 (j := 21) rfl) rfl
theorem dR_init_694 : decode (mcc mR_init) 694 = .ok (.bipush 101, 2) := o16 (a := 101) (byt_of hR_init_b7 (j := 22) rfl) (byt_of hR_init_b7 (j := 23) rfl) rfl
theorem dR_init_696 : decode (mcc mR_init) 696 = .ok (.iastore, 1) := o79 (byt_of hR_init_b7 (j := 24) rfl)
theorem dR_init_697 : decode (mcc mR_init) 697 = .ok (.dup, 1) := o89 (byt_of hR_init_b7 (j := 25) rfl)
theorem dR_init_698 : decode (mcc mR_init) 698 = .ok (.bipush 65, 2) := o16 (a := 65) (byt_of hR_init_b7 (j := 26) rfl) (byt_of hR_init_b7 (j := 27) rfl) rfl
theorem dR_init_700 : decode (mcc mR_init) 700 = .ok (.bipush 100, 2) := o16 (a := 100) (byt_of hR_init_b7 (j := 28) rfl) (byt_of hR_init_b7 (j := 29) rfl) rfl
theorem dR_init_702 : decode (mcc mR_init) 702 = .ok (.iastore, 1) := o79 (byt_of hR_init_b7 (j := 30) rfl)
theorem dR_init_703 : decode (mcc mR_init) 703 = .ok (.dup, 1) := o89 (byt_of hR_init_b7 (j := 31) rfl)
theorem dR_init_704 : decode (mcc mR_init) 704 = .ok (.bipush 66, 2) := o16 (a := 66) (byt_of hR_init_b7 (j := 32) rfl) (byt_of hR_init_b7 (j := 33) rfl) rfl
theorem dR_init_706 : decode (mcc mR_init) 706 = .ok (.bipush 32, 2) := o16 (a := 32) (byt_of hR_init_b7 (j := 34) rfl) (byt_of hR_init_b7 (j := 35) rfl) rfl
theorem dR_init_708 : decode (mcc mR_init) 708 = .ok (.iastore, 1) := o79 (byt_of hR_init_b7 (j := 36) rfl)
theorem dR_init_709 : decode (mcc mR_init) 709 = .ok (.dup, 1) := o89 (byt_of hR_init_b7 (j := 37) rfl)
theorem dR_init_710 : decode (mcc mR_init) 710 = .ok (.bipush 67, 2) := o16 (a := 67) (byt_of hR_init_b7 (j := 38) rfl) (byt_of hR_init_b7 (j := 39) rfl) rfl
theorem dR_init_712 : decode (mcc mR_init) 712 = .ok (.bipush 42, 2) := o16 (a := 42) (byt_of hR_init_b7 (j := 40) rfl) (byt_of hR_init_b7 (j := 41) rfl) rfl
theorem dR_init_714 : decode (mcc mR_init) 714 = .ok (.iastore, 1) := o79 (byt_of hR_init_b7 (j := 42) rfl)
theorem dR_init_715 : decode (mcc mR_init) 715 = .ok (.dup, 1) := o89 (byt_of hR_init_b7 (j := 43) rfl)
theorem dR_init_716 : decode (mcc mR_init) 716 = .ok (.bipush 68, 2) := o16 (a := 68) (byt_of hR_init_b7 (j := 44) rfl) (byt_of hR_init_b7 (j := 45) rfl) rfl
theorem dR_init_718 : decode (mcc mR_init) 718 = .ok (.bipush 32, 2) := o16 (a := 32) (byt_of hR_init_b7 (j := 46) rfl) (byt_of hR_init_b7 (j := 47) rfl) rfl
theorem dR_init_720 : decode (mcc mR_init) 720 = .ok (.iastore, 1) := o79 (byt_of hR_init_b7 (j := 48) rfl)
theorem dR_init_721 : decode (mcc mR_init) 721 = .ok (.dup, 1) := o89 (byt_of hR_init_b7 (j := 49) rfl)
theorem dR_init_722 : decode (mcc mR_init) 722 = .ok (.bipush 69, 2) := o16 (a := 69) (byt_of hR_init_b7 (j := 50) rfl) (byt_of hR_init_b7 (j := 51) rfl) rfl
theorem dR_init_724 : decode (mcc mR_init) 724 = .ok (.bipush 98, 2) := o16 (a := 98) (byt_of hR_init_b7 (j := 52) rfl) (byt_of hR_init_b7 (j := 53) rfl) rfl
theorem dR_init_726 : decode (mcc mR_init) 726 = .ok (.iastore, 1) := o79 (byt_of hR_init_b7 (j := 54) rfl)
theorem dR_init_727 : decode (mcc mR_init) 727 = .ok (.dup, 1) := o89 (byt_of hR_init_b7 (j := 55) rfl)
theorem dR_init_728 : decode (mcc mR_init) 728 = .ok (.bipush 70, 2) := o16 (a := 70) (byt_of hR_init_b7 (j := 56) rfl) (byt_of hR_init_b7 (j := 57) rfl) rfl
theorem dR_init_730 : decode (mcc mR_init) 730 = .ok (.bipush 97, 2) := o16 (a := 97) (byt_of hR_init_b7 (j := 58) rfl) (byt_of hR_init_b7 (j := 59) rfl) rfl
theorem dR_init_732 : decode (mcc mR_init) 732 = .ok (.iastore, 1) := o79 (byt_of hR_init_b7 (j := 60) rfl)
theorem dR_init_733 : decode (mcc mR_init) 733 = .ok (.dup, 1) := o89 (byt_of hR_init_b7 (j := 61) rfl)
theorem dR_init_734 : decode (mcc mR_init) 734 = .ok (.bipush 71, 2) := o16 (a := 71) (byt_of hR_init_b7 (j := 62) rfl) (byt_of hR_init_b7 (j := 63) rfl) rfl
theorem dR_init_736 : decode (mcc mR_init) 736 = .ok (.bipush 115, 2) := o16 (a := 115) (byt_of hR_init_b7 (j := 64) rfl) (byt_of hR_init_b7 (j := 65) rfl) rfl
theorem dR_init_738 : decode (mcc mR_init) 738 = .ok (.iastore, 1) := o79 (byt_of hR_init_b7 (j := 66) rfl)
theorem dR_init_739 : decode (mcc mR_init) 739 = .ok (.dup, 1) := o89 (byt_of hR_init_b7 (j := 67) rfl)
theorem dR_init_740 : decode (mcc mR_init) 740 = .ok (.bipush 72, 2) := o16 (a := 72) (byt_of hR_init_b7 (j := 68) rfl) (byt_of hR_init_b7 (j := 69) rfl) rfl
theorem dR_init_742 : decode (mcc mR_init) 742 = .ok (.bipush 101, 2) := o16 (a := 101) (byt_of hR_init_b7 (j := 70) rfl) (byt_of hR_init_b7 (j := 71) rfl) rfl
theorem dR_init_744 : decode (mcc mR_init) 744 = .ok (.iastore, 1) := o79 (byt_of hR_init_b7 (j := 72) rfl)
theorem dR_init_745 : decode (mcc mR_init) 745 = .ok (.dup, 1) := o89 (byt_of hR_init_b7 (j := 73) rfl)
theorem dR_init_746 : decode (mcc mR_init) 746 = .ok (.bipush 73, 2) := o16 (a := 73) (byt_of hR_init_b7 (j := 74) rfl) (byt_of hR_init_b7 (j := 75) rfl) rfl
theorem dR_init_748 : decode (mcc mR_init) 748 = .ok (.bipush 32, 2) := o16 (a := 32) (byt_of hR_init_b7 (j := 76) rfl) (byt_of hR_init_b7 (j := 77) rfl) rfl
theorem dR_init_750 : decode (mcc mR_init) 750 = .ok (.iastore, 1) := o79 (byt_of hR_init_b7 (j := 78) rfl)
theorem dR_init_751 : decode (mcc mR_init) 751 = .ok (.dup, 1) := o89 (byt_of hR_init_b7 (j := 79) rfl)
theorem dR_init_752 : decode (mcc mR_init) 752 = .ok (.bipush 74, 2) := o16 (a := 74) (byt_of hR_init_b7 (j := 80) rfl) (byt_of hR_init_b7 (j := 81) rfl) rfl
theorem dR_init_754 : decode (mcc mR_init) 754 = .ok (.bipush 59, 2) := o16 (a := 59) (byt_of hR_init_b7 (j := 82) rfl) (byt_of hR_init_b7 (j := 83) rfl) rfl
theorem dR_init_756 : decode (mcc mR_init) 756 = .ok (.iastore, 1) := o79 (byt_of hR_init_b7 (j := 84) rfl)
theorem dR_init_757 : decode (mcc mR_init) 757 = .ok (.putfield 107, 3) := o181 (a := 0) (b := 107) (byt_of hR_init_b7 (j := 85) rfl) (byt_of hR_init_b7 (j := 86) rfl) (byt_of hR_init_b7 (j := 87) rfl) rfl
theorem dR_init_760 : decode (mcc mR_init) 760 = .ok (.aload_n 0, 1) := o42 (byt_of hR_init_b7 (j := 88) rfl)
theorem dR_init_761 : decode (mcc mR_init) 761 = .ok (.bipush 96, 2) := o16 (a := 96) (byt_of hR_init_b7 (j := 89) rfl) (byt_of hR_init_b7 (j := 90) rfl) rfl
theorem dR_init_763 : decode (mcc mR_init) 763 = .ok (.newarray .int, 2) := o188 (byt_of hR_init_b7 (j := 91) rfl) (byt_of hR_init_b7 (j := 92) rfl)
theorem dR_init_765 : decode (mcc mR_init) 765 = .ok (.dup, 1) := o89 (byt_of hR_init_b7 (j := 93) rfl)
theorem dR_init_766 : decode (mcc mR_init) 766 = .ok (.iconst 0, 1) := o3 (byt_of hR_init_b7 (j := 94) rfl)
theorem dR_init_767 : decode (mcc mR_init) 767 = .ok (.bipush 104, 2) := o16 (a := 104) (byt_of hR_init_b7 (j := 95) rfl) (byt_of hR_init_b7 (j := 96) rfl) rfl
def bR_init_b8 : List Nat := [104, 79, 89, 4, 16, 101, 79, 89, 5, 16, 97, 79, 89, 6, 16, 114, 79, 89, 7, 16, 100, 79, 89, 8, 16, 32, 79, 89, 16, 6, 16, 32, 79, 89, 16, 7, 16, 32, 79, 89, 16, 8, 16, 115, 79, 89, 16, 9, 16, 104, 79, 89, 16, 10, 16, 97, 79, 89, 16, 11, 16, 114, 79, 89, 16, 12, 16, 101, 79, 89, 16, 13, 16, 32, 79, 89, 16, 14, 16, 32, 79, 89, 16, 15, 16, 32, 79, 89, 16, 16, 16, 112, 79, 89, 16, 17, 16, 97, 79, 89, 16, 18]
theorem hR_init_b8 : BL (mcc mR_init) 768 bR_init_b8 := by decide +kernel
theorem dR_init_769 : decode (mcc mR_init) 769 = .ok (.iastore, 1) := o79 (byt_of hR_init_b8 (j := 1) rfl)
theorem dR_init_770 : decode (mcc mR_init) 770 = .ok (.dup, 1) := o89 (byt_of hR_init_b8 (j := 2) rfl)
theorem dR_init_771 : decode (mcc mR_init) 771 = .ok (.iconst 1, 1) := o4 (byt_of hR_init_b8 (j := 3) rfl)
theorem dR_init_772 : decode (mcc mR_init) 772 = .ok (.bipush 101, 2) := o16 (a := 101) (byt_of hR_init_b8 (j := 4) rfl) (byt_of hR_init_b8 (j := 5) rfl) rfl
theorem dR_init_774 : decode (mcc mR_init) 774 = .ok (.iastore, 1) := o79 (byt_of hR_init_b8 (j := 6) rfl)
theorem dR_init_775 : decode (mcc mR_init) 775 = .ok (.dup, 1) := o89 (byt_of hR_init_b8 (j := 7) rfl)
theorem dR_init_776 : decode (mcc mR_init) 776 = .ok (.iconst 2, 1) := o5 (byt_of hR_init_b8 (j := 8) rfl)
theorem dR_init_777 : decode (mcc mR_init) 777 = .ok (.bipush 97, 2) := o16 (a := 97) (byt_of hR_init_b8 (j := 9) rfl) (byt_of hR_init_b8 (j := 10) rfl) rfl
theorem dR_init_779 : decode (mcc mR_init) 779 = .ok (.iastore, 1) := o79 (byt_of hR_init_b8 (j := 11) rfl)
theorem dR_init_780 : decode (mcc mR_init) 780 = .ok (.dup, 1) := o89 (byt_of hR_init_b8 (j := 12) rfl)
theorem dR_init_781 : decode (mcc mR_init) 781 = .ok (.iconst 3, 1) := o6 (byt_of hR_init_b8 (j := 13) rfl)
theorem dR_init_782 : decode (mcc mR_init) 782 = .ok (.bipush 114, 2) := o16 (a := 114) (byt_of hR_init_b8 (j := 14) rfl) (byt_of hR_init_b8 (j := 15) rfl) rfl
theorem dR_init_784 : decode (mcc mR_init) 784 = .ok (.iastore, 1) := o79 (byt_of hR_init_b8 (j := 16) rfl)
theorem dR_init_785 : decode (mcc mR_init) 785 = .ok (.dup, 1) := o89 (byt_of hR_init_b8 (j := 17) rfl)
theorem dR_init_786 : decode (mcc mR_init) 786 = .ok (.iconst 4, 1) := o7 (byt_of hR_init_b8 (j := 18) rfl)
theorem dR_init_787 : decode (mcc mR_init) 787 = .ok (.bipush 100, 2) := o16 (a := 100) (byt_of hR_init_b8 (j := 19) rfl) (byt_of hR_init_b8 (j := 20) rfl) rfl
theorem dR_init_789 : decode (mcc mR_init) 789 = .ok (.iastore, 1) := o79 (byt_of hR_init_b8 (j := 21) rfl)
theorem dR_init_790 : decode (mcc mR_init) 790 = .ok (.dup, 1) := o89 (byt_of hR_init_b8 (j := 22) rfl)
theorem dR_init_791 : decode (mcc mR_init) 791 = .ok (.iconst 5, 1) := o8 (byt_of hR_init_b8 (j := 23) rfl)
theorem dR_init_792 : decode (mcc mR_init) 792 = .ok (.bipush 32, 2) := o16 (a := 32) (byt_of hR_init_b8 (j := 24) rfl) (byt_of hR_init_b8 (j := 25) rfl) rfl
theorem dR_init_794 : decode (mcc mR_init) 794 = .ok (.iastore, 1) := o79 (byt_of hR_init_b8 (j := 26) rfl)
theorem dR_init_795 : decode (mcc mR_init) 795 = .ok (.dup, 1) := o89 (byt_of hR_init_b8 (j := 27) rfl)
theorem dR_init_796 : decode (mcc mR_init) 796 = .ok (.bipush 6, 2) := o16 (a := 6) (byt_of hR_init_b8 (j := 28) rfl) (byt_of hR_init_b8 (j := 29) rfl) rfl
theorem dR_init_798 : decode (mcc mR_init) 798 = .ok (.bipush 32, 2) := o16 (a := 32) (byt_of hR_init_b8 (j := 30) rfl) (byt_of hR_init_b8 (j := 31) rfl) rfl
theorem dR_init_800 : decode (mcc mR_init) 800 = .ok (.iastore, 1) := o79 (byt_of hR_init_b8 (j := 32) rfl)
theorem dR_init_801 : decode (mcc mR_init) 801 = .ok (.dup, 1) := o89 (byt_of hR_init_b8 (j := 33) rfl)
theorem dR_init_802 : decode (mcc mR_init) 802 = .ok (.bipush 7, 2) := o16 (a := 7) (byt_of hR_init_b8 (j := 34) rfl) (byt_of hR_init_b8 (j := 35) rfl) rfl
theorem dR_init_804 : decode (mcc mR_init) 804 = .ok (.bipush 32, 2) := o16 (a := 32) (byt_of hR_init_b8 (j := 36) rfl) (byt_of hR_init_b8 (j := 37) rfl) rfl
theorem dR_init_806 : decode (mcc mR_init) 806 = .ok (.iastore, 1) := o79 (byt_of hR_init_b8 (j := 38) rfl)
theorem dR_init_807 : decode (mcc mR_init) 807 = .ok (.dup, 1) := o89 (byt_of hR_init_b8 (j := 39) rfl)
theorem dR_init_808 : decode (mcc mR_init) 808 = .ok (.bipush 8, 2) := o16 (a := 8) (byt_of hR_init_b8 (j := 40) rfl) (byt_of hR_init_b8 (j := 41) rfl) rfl
theorem dR_init_810 : decode (mcc mR_init) 810 = .ok (.bipush 115, 2) := o16 (a := 115) (byt_of hR_init_b8 (j := 42) rfl) (byt_of hR_init_b8 (j := 43) rfl) rfl
theorem dR_init_812 : decode (mcc mR_init) 812 = .ok (.iastore, 1) := o79 (byt_of hR_init_b8 (j := 44) rfl)
theorem dR_init_813 : decode (mcc mR_init) 813 = .ok (.dup, 1) := o89 (byt_of hR_init_b8 (j := 45) rfl)
theorem dR_init_814 : decode (mcc mR_init) 814 = .ok (.bipush 9, 2) := o16 (a := 9) (byt_of hR_init_b8 (j := 46) rfl) (byt_of hR_init_b8 (j := 47) rfl) rfl
theorem dR_init_816 : decode (mcc mR_init) 816 = .ok (.bipush 104, 2) := o16 (a := 104) (byt_of hR_init_b8 (j := 48) rfl) (byt_of hR_init_b8 (j := 49) rfl) rfl
theorem dR_init_818 : decode (mcc mR_init) 818 = .ok (.iastore, 1) := o79 (byt_of hR_init_b8 (j := 50) rfl)
theorem dR_init_819 : decode (mcc mR_init) 819 = .ok (.dup, 1) := o89 (byt_of hR_init_b8 (j := 51) rfl)
theorem dR_init_820 : decode (mcc mR_init) 820 = .ok (.bipush 10, 2) := o16 (a := 10) (byt_of hR_init_b8 (j := 52) rfl) (byt_of hR_init_b8 (j := 53) rfl) rfl
theorem dR_init_822 : decode (mcc mR_init) 822 = .ok (.bipush 97, 2) := o16 (a := 97) (byt_of hR_init_b8 (j := 54) rfl) (byt_of hR_init_b8 (j := 55) rfl) rfl
theorem dR_init_824 : decode (mcc mR_init) 824 = .ok (.iastore, 1) := o79 (byt_of hR_init_b8 (j := 56) rfl)
theorem dR_init_825 : decode (mcc mR_init) 825 = .ok (.dup, 1) := o89 (byt_of hR_init_b8 (j := 57) rfl)
theorem dR_init_826 : decode (mcc mR_init) 826 = .ok (.bipush 11, 2) := o16 (a := 11) (byt_of hR_init_b8 (j := 58) rfl) (byt_of hR_init_b8 (j := 59) rfl) rfl
theorem dR_init_828 : decode (mcc mR_init) 828 = .ok (.bipush 114, 2) := o16 (a := 114) (byt_of hR_init_b8 (j := 60) rfl) (byt_of hR_init_b8 (j := 61) rfl) rfl
theorem dR_init_830 : decode (mcc mR_init) 830 = .ok (.iastore, 1) := o79 (byt_of hR_init_b8 (j := 62) rfl)
theorem dR_init_831 : decode (mcc mR_init) 831 = .ok (.dup, 1) := o89 (byt_of hR_init_b8 (j := 63) rfl)
theorem dR_init_832 : decode (mcc mR_init) 832 = .ok (.bipush 12, 2) := o16 (a := 12) (byt_of hR_init_b8 (j := 64) rfl) (byt_of hR_init_b8 (j := 65) rfl) rfl
theorem dR_init_834 : decode (mcc mR_init) 834 = .ok (.bipush 101, 2) := o16 (a := 101) (byt_of hR_init_b8 (j := 66) rfl) (byt_of hR_init_b8 (j := 67) rfl) rfl
theorem dR_init_836 : decode (mcc mR_init) 836 = .ok (.iastore, 1) := o79 (byt_of hR_init_b8 (j := 68) rfl)
theorem dR_init_837 : decode (mcc mR_init) 837 = .ok (.dup, 1) := o89 (byt_of hR_init_b8 (j := 69) rfl)
theorem dR_init_838 : decode (mcc mR_init) 838 = .ok (.bipush 13, 2) := o16 (a := 13) (byt_of hR_init_b8 (j := 70) rfl) (byt_of hR_init_b8 (j := 71) rfl) rfl
theorem dR_init_840 : decode (mcc mR_init) 840 = .ok (.bipush 32, 2) := o16 (a := 32) (byt_of hR_init_b8 (j := 72) rfl) (byt_of hR_init_b8 (j := 73) rfl) rfl
theorem dR_init_842 : decode (mcc mR_init) 842 = .ok (.iastore, 1) := o79 (byt_of hR_init_b8 (j := 74) rfl)
theorem dR_init_843 : decode (mcc mR_init) 843 = .ok (.dup, 1) := o89 (byt_of hR_init_b8 (j := 75) rfl)
theorem dR_init_844 : decode (mcc mR_init) 844 = .ok (.bipush 14, 2) := o16 (a := 14) (byt_of hR_init_b8 (j := 76) rfl) (byt_of hR_init_b8 (j := 77) rfl) rfl
theorem dR_init_846 : decode (mcc mR_init) 846 = .ok (.bipush 32, 2) := o16 (a := 32) (byt_of hR_init_b8 (j := 78) rfl) (byt_of hR_init_b8 (j := 79) rfl) rfl
theorem dR_init_848 : decode (mcc mR_init) 848 = .ok (.iastore, 1) := o79 (byt_of hR_init_b8 (j := 80) rfl)
theorem dR_init_849 : decode (mcc mR_init) 849 = .ok (.dup, 1) := o89 (byt_of hR_init_b8 (j := 81) rfl)
theorem dR_init_850 : decode (mcc mR_init) 850 = .ok (.bipush 15, 2) := o16 (a := 15) (byt_of hR_init_b8 (j := 82) rfl) (byt_of hR_init_b8 (j := 83) rfl) rfl
theorem dR_init_852 : decode (mcc mR_init) 852 = .ok (.bipush 32, 2) := o16 (a := 32) (byt_of hR_init_b8 (j := 84) rfl) (byt_of hR_init_b8 (j := 85) rfl) rfl
theorem dR_init_854 : decode (mcc mR_init) 854 = .ok (.iastore, 1) := o79 (byt_of hR_init_b8 (j := 86) rfl)
theorem dR_init_855 : decode (mcc mR_init) 855 = .ok (.dup, 1) := o89 (byt_of hR_init_b8 (j := 87) rfl)
theorem dR_init_856 : decode (mcc mR_init) 856 = .ok (.bipush 16, 2) := o16 (a := 16) (byt_of hR_init_b8 (j := 88) rfl) (byt_of hR_init_b8 (j := 89) rfl) rfl
theorem dR_init_858 : decode (mcc mR_init) 858 = .ok (.bipush 112, 2) := o16 (a := 112) (byt_of hR_init_b8 (j := 90) rfl) (byt_of hR_init_b8 (j := 91) rfl) rfl
theorem dR_init_860 : decode (mcc mR_init) 860 = .ok (.iastore, 1) := o79 (byt_of hR_init_b8 (j := 92) rfl)
theorem dR_init_861 : decode (mcc mR_init) 861 = .ok (.dup, 1) := o89 (byt_of hR_init_b8 (j := 93) rfl)
theorem dR_init_862 : decode (mcc mR_init) 862 = .ok (.bipush 17, 2) := o16 (a := 17) (byt_of hR_init_b8 (j := 94) rfl) (byt_of hR_init_b8 (j := 95) rfl) rfl
def bR_init_b9 : List Nat := [16, 97, 79, 89, 16, 18, 16, 105, 79, 89, 16, 19, 16, 110, 79, 89, 16, 20, 16, 32, 79, 89, 16, 21, 16, 32, 79, 89, 16, 22, 16, 32, 79, 89, 16, 23, 16, 32, 79, 89, 16, 24, 16, 108, 79, 89, 16, 25, 16, 111, 79, 89, 16, 26, 16, 117, 79, 89, 16, 27, 16, 100, 79, 89, 16, 28, 16, 32, 79, 89, 16, 29, 16, 32, 79, 89, 16, 30, 16, 32, 79, 89, 16, 31, 16, 32, 79, 89, 16, 32, 16, 102, 79, 89, 16, 33, 16, 97, 79, 89, 16, 34]
theorem hR_init_b9 : BL (mcc mR_init) 864 bR_init_b9 := by decide +kernel
theorem dR_init_864 : decode (mcc mR_init) 864 = .ok (.bipush 97, 2) := o16 (a := 97) (byt_of hR_init_b9 (j := 0) rfl) (byt_of hR_init_b9 (j := 1) rfl) rfl
theorem dR_init_866 : decode (mcc mR_init) 866 = .ok (.iastore, 1) := o79 (byt_of hR_init_b9 (j := 2) rfl)
theorem dR_init_867 : decode (mcc mR_init) 867 = .ok (.dup, 1) := o89 (byt_of hR_init_b9 (j := 3) rfl)
theorem dR_init_868 : decode (mcc mR_init) 868 = .ok (.bipush 18, 2) := o16 (a := 18) (byt_of hR_init_b9 (j := 4) rfl) (byt_of hR_init_b9 (j := 5) rfl) rfl
theorem dR_init_870 : decode (mcc mR_init) 870 = .ok (.bipush 105, 2) := o16 (a := 105) (byt_of hR_init_b9 (j := 6) rfl) (byt_of hR_init_b9 (j := 7) rfl) rfl
theorem dR_init_872 : decode (mcc mR_init) 872 = .ok (.iastore, 1) := o79 (byt_of hR_init_b9 (j := 8) rfl)
theorem dR_init_873 : decode (mcc mR_init) 873 = .ok (.dup, 1) := o89 (byt_of hR_init_b9 (j := 9) rfl)
theorem dR_init_874 : decode (mcc mR_init) 874 = .ok (.bipush 19, 2) := o16 (a := 19) (byt_of hR_init_b9 (j := 10) rfl) (byt_of hR_init_b9 (j := 11) rfl) rfl
theorem dR_init_876 : decode (mcc mR_init) 876 = .ok (.bipush 110, 2) := o16 (a := 110) (byt_of hR_init_b9 (j := 12) rfl) (byt_of hR_init_b9 (j := 13) rfl) rfl
theorem dR_init_878 : decode (mcc mR_init) 878 = .ok (.iastore, 1) := o79 (byt_of hR_init_b9 (j := 14) rfl)
theorem dR_init_879 : decode (mcc mR_init) 879 = .ok (.dup, 1) := o89 (byt_of hR_init_b9 (j := 15) rfl)
theorem dR_init_880 : decode (mcc mR_init) 880 = .ok (.bipush 20, 2) := o16 (a := 20) (byt_of hR_init_b9 (j := 16) rfl) (byt_of hR_init_b9 (j := 17) rfl) rfl
theorem dR_init_882 : decode (mcc mR_init) 882 = .ok (.bipush 32, 2) := o16 (a := 32) (byt_of hR_init_b9 (j := 18) rfl) (byt_of hR_init_b9 (j := 19) rfl) rfl
theorem dR_init_884 : decode (mcc mR_init) 884 = .ok (.iastore, 1) := o79 (byt_of hR_init_b9 (j := 20) rfl)
theorem dR_init_885 : decode (mcc mR_init) 885 = .ok (.dup, 1) := o89 (byt_of hR_init_b9 (j := 21) rfl)
theorem dR_init_886 : decode (mcc mR_init) 886 = .ok (.bipush 21, 2) := o16 (a := 21) (byt_of hR_init_b9 (j := 22) rfl) (byt_of hR_init_b9 (j := 23) rfl) rfl
theorem dR_init_888 : decode (mcc mR_init) 888 = .ok (.bipush 32, 2) := o16 (a := 32) (byt_of hR_init_b9 (j := 24) rfl) (byt_of hR_init_b9 (j := 25) rfl) rfl
theorem dR_init_890 : decode (mcc mR_init) 890 = .ok (.iastore, 1) := o79 (byt_of hR_init_b9 (j := 26) rfl)
theorem dR_init_891 : decode (mcc mR_init) 891 = .ok (.dup, 1) := o89 (byt_of hR_init_b9 (j := 27) rfl)
theorem dR_init_892 : decode (mcc mR_init) 892 = .ok (.bipush 22, 2) := o16 (a := 22) (byt_of hR_init_b9 (j := 28) rfl) (byt_of hR_init_b9 (j := 29) rfl) rfl
theorem dR_init_894 : decode (mcc mR_init) 894 = .ok (.bipush 32, 2) := o16 (a := 32) (byt_of hR_init_b9 (j := 30) rfl) (byt_of hR_init_b9 (j := 31) rfl) rfl
theorem dR_init_896 : decode (mcc mR_init) 896 = .ok (.iastore, 1) := o79 (byt_of hR_init_b9 (j := 32) rfl)
theorem dR_init_897 : decode (mcc mR_init) 897 = .ok (.dup, 1) := o89 (byt_of hR_init_b9 (j := 33) rfl)
theorem dR_init_898 : decode (mcc mR_init) 898 = .ok (.bipush 23, 2) := o16 (a := 23) (byt_of hR_init_b9 (j := 34) rfl) (byt_of hR_init_b9 (j := 35) rfl) rfl
theorem dR_init_900 : decode (mcc mR_init) 900 = .ok (.bipush 32, 2) := o16 (a := 32) (byt_of hR_init_b9 (j := 36) rfl) (byt_of hR_init_b9 (j := 37) rfl) rfl
theorem dR_init_902 : decode (mcc mR_init) 902 = .ok (.iastore, 1) := o79 (byt_of hR_init_b9 (j := 38) rfl)
theorem dR_init_903 : decode (mcc mR_init) 903 = .ok (.dup, 1) := o89 (byt_of hR_init_b9 (j := 39) rfl)
theorem dR_init_904 : decode (mcc mR_init) 904 = .ok (.bipush 24, 2) := o16 (a := 24) (byt_of hR_init_b9 (j := 40) rfl) (byt_of hR_init_b9 (j := 41) rfl) rfl
theorem dR_init_906 : decode (mcc mR_init) 906 = .ok (.bipush 108, 2) := o16 (a := 108) (byt_of hR_init_b9 (j := 42) rfl) (byt_of hR_init_b9 (j := 43) rfl) rfl
theorem dR_init_908 : decode (mcc mR_init) 908 = .ok (.iastore, 1) := o79 (byt_of hR_init_b9 (j := 44) rfl)
theorem dR_init_909 : decode (mcc mR_init) 909 = .ok (.dup, 1) := o89 (byt_of hR_init_b9 (j := 45) rfl)
theorem dR_init_910 : decode (mcc mR_init) 910 = .ok (.bipush 25, 2) := o16 (a := 25) (byt_of hR_init_b9 (j := 46) rfl) (byt_of hR_init_b9 (j := 47) rfl) rfl
theorem dR_init_912 : decode (mcc mR_init) 912 = .ok (.bipush 111, 2) := o16 (a := 111) (byt_of hR_init_b9 (j := 48) rfl) (byt_of hR_init_b9 (j := 49) rfl) rfl
theorem dR_init_914 : decode (mcc mR_init) 914 = .ok (.iastore, 1) := o79 (byt_of hR_init_b9 (j := 50) rfl)
theorem dR_init_915 : decode (mcc mR_init) 915 = .ok (.dup, 1) := o89 (byt_of hR_init_b9 (j := 51) rfl)
theorem dR_init_916 : decode (mcc mR_init) 916 = .ok (.bipush 26, 2) := o16 (a := 26) (byt_of hR_init_b9 (j := 52) rfl) (byt_of hR_init_b9 (j := 53) rfl) rfl
theorem dR_init_918 : decode (mcc mR_init) 918 = .ok (.bipush 117, 2) := o16 (a := 117) (byt_of hR_init_b9 (j := 54) rfl) (byt_of hR_init_b9 (j := 55) rfl) rfl
theorem dR_init_920 : decode (mcc mR_init) 920 = .ok (.iastore, 1) := o79 (byt_of hR_init_b9 (j := 56) rfl)
theorem dR_init_921 : decode (mcc mR_init) 921 = .ok (.dup, 1) := o89 (byt_of hR_init_b9 (j := 57) rfl)
theorem dR_init_922 : decode (mcc mR_init) 922 = .ok (.bipush 27, 2) := o16 (a := 27) (byt_of hR_init_b9 (j := 58) rfl) (byt_of hR_init_b9 (j := 59) rfl) rfl
theorem dR_init_924 : decode (mcc mR_init) 924 = .ok (.bipush 100, 2) := o16 (a := 100) (byt_of hR_init_b9 (j := 60) rfl) (byt_of hR_init_b9 (j := 61) rfl) rfl
theorem dR_init_926 : decode (mcc mR_init) 926 = .ok (.iastore, 1) := o79 (byt_of hR_init_b9 (j := 62) rfl)
theorem dR_init_927 : decode (mcc mR_init) 927 = .ok (.dup, 1) := o89 (byt_of hR_init_b9 (j := 63) rfl)
theorem dR_init_928 : decode (mcc mR_init) 928 = .ok (.bipush 28, 2) := o16 (a := 28) (byt_of hR_init_b9 (j := 64) rfl) (byt_of hR_init_b9 (j := 65) rfl) rfl
theorem dR_init_930 : decode (mcc mR_init) 930 = .ok (.bipush 32, 2) := o16 (a := 32) (byt_of hR_init_b9 (j := 66) rfl) (byt_of hR_init_b9 (j := 67) rfl) rfl
theorem dR_init_932 : decode (mcc mR_init) 932 = .ok (.iastore, 1) := o79 (byt_of hR_init_b9 (j := 68) rfl)
theorem dR_init_933 : decode (mcc mR_init) 933 = .ok (.dup, 1) := o89 (byt_of hR_init_b9 (j := 69) rfl)
theorem dR_init_934 : decode (mcc mR_init) 934 = .ok (.bipush 29, 2) := o16 (a := 29) (byt_of hR_init_b9 (j := 70) rfl) (byt_of hR_init_b9 (j := 71) rfl) rfl
theorem dR_init_936 : decode (mcc mR_init) 936 = .ok (.bipush 32, 2) := o16 (a := 32) (byt_of hR_init_b9 (j := 72) rfl) (byt_of hR_init_b9 (j := 73) rfl) rfl
theorem dR_init_938 : decode (mcc mR_init) 938 = .ok (.iastore, 1) := o79 (byt_of hR_init_b9 (j := 74) rfl)
theorem dR_init_939 : decode (mcc mR_init) 939 = .ok (.dup, 1) := o89 (byt_of hR_init_b9 (j := 75) rfl)
theorem dR_init_940 : decode (mcc mR_init) 940 = .ok (.bipush 30, 2) := o16 (a := 30) (byt_of hR_init_b9 (j := 76) rfl) (byt_of hR_init_b9 (j := 77) rfl) rfl
theorem dR_init_942 : decode (mcc mR_init) 942 = .ok (.bipush 32, 2) := o16 (a := 32) (byt_of hR_init_b9 (j := 78) rfl) (byt_of hR_init_b9 (j := 79) rfl) rfl
theorem dR_init_944 : decode (mcc mR_init) 944 = .ok (.iastore, 1) := o79 (byt_of hR_init_b9 (j := 80) rfl)
theorem dR_init_945 : decode (mcc mR_init) 945 = .ok (.dup, 1) := o89 (byt_of hR_init_b9 (j := 81) rfl)
theorem dR_init_946 : decode (mcc mR_init) 946 = .ok (.bipush 31, 2) := o16 (a := 31) (byt_of hR_init_b9 (j := 82) rfl) (byt_of hR_init_b9 (j := 83) rfl) rfl
theorem dR_init_948 : decode (mcc mR_init) 948 = .ok (.bipush 32, 2) := o16 (a := 32) (byt_of hR_init_b9 (j := 84) rfl) (byt_of hR_init_b9 (j := 85) rfl) rfl
theorem dR_init_950 : decode (mcc mR_init) 950 = .ok (.iastore, 1) := o79 (byt_of hR_init_b9 (j := 86) rfl)
theorem dR_init_951 : decode (mcc mR_init) 951 = .ok (.dup, 1) := o89 (byt_of hR_init_b9 (j := 87) rfl)
theorem dR_init_952 : decode (mcc mR_init) 952 = .ok (.bipush 32, 2) := o16 (a := 32) (byt_of hR_init_b9 (j := 88) rfl) (byt_of hR_init_b9 (j := 89) rfl) rfl
theorem dR_init_954 : decode (mcc mR_init) 954 = .ok (.bipush 102, 2) := o16 (a := 102) (byt_of hR_init_b9 (j := 90) rfl) (byt_of hR_init_b9 (j := 91) rfl) rfl
theorem dR_init_956 : decode (mcc mR_init) 956 = .ok (.iastore, 1) := o79 (byt_of hR_init_b9 (j := 92) rfl)
theorem dR_init_957 : decode (mcc mR_init) 957 = .ok (.dup, 1) := o89 (byt_of hR_init_b9 (j := 93) rfl)
theorem dR_init_958 : decode (mcc mR_init) 958 = .ok (.bipush 33, 2) := o16 (a := 33) (byt_of hR_init_b9 (j := 94) rfl) (byt_of hR_init_b9 (j := 95) rfl) rfl
def bR_init_b10 : List Nat := [16, 97, 79, 89, 16, 34, 16, 114, 79, 89, 16, 35, 16, 32, 79, 89, 16, 36, 16, 32, 79, 89, 16, 37, 16, 32, 79, 89, 16, 38, 16, 32, 79, 89, 16, 39, 16, 32, 79, 89, 16, 40, 16, 101, 79, 89, 16, 41, 16, 97, 79, 89, 16, 42, 16, 114, 79, 89, 16, 43, 16, 32, 79, 89, 16, 44, 16, 32, 79, 89, 16, 45, 16, 32, 79, 89, 16, 46, 16, 32, 79, 89, 16, 47, 16, 32, 79, 89, 16, 48, 16, 110, 79, 89, 16, 49, 16, 101, 79, 89, 16, 50]
theorem hR_init_b10 : BL (mcc mR_init) 960 bR_init_b10 := by decide +kernel
theorem dR_init_960 : decode (mcc mR_init) 960 = .ok (.bipush 97, 2) := o16 (a := 97) (byt_of hR_init_b10 (j := 0) rfl) (byt_of hR_init_b10 (j := 1) rfl) rfl
theorem dR_init_962 : decode (mcc mR_init) 962 = .ok (.iastore, 1) := o79 (byt_of hR_init_b10 (j := 2) rfl)
theorem dR_init_963 : decode (mcc mR_init) 963 = .ok (.dup, 1) := o89 (byt_of hR_init_b10 (j := 3) rfl)
theorem dR_init_964 : decode (mcc mR_init) 964 = .ok (.bipush 34, 2) := o16 (a := 34) (byt_of hR_init_b10 (j := 4) rfl) (byt_of hR_init_b10 (j := 5) rfl) rfl
theorem dR_init_966 : decode (mcc mR_init) 966 = .ok (.bipush 114, 2) := o16 (a := 114) (byt_of hR_init_b10 (j := 6) rfl) (byt_of hR_init_b10 (j := 7) rfl) rfl
theorem dR_init_968 : decode (mcc mR_init) 968 = .ok (.iastore, 1) := o79 (byt_of hR_init_b10 (j := 8) rfl)
theorem dR_init_969 : decode (mcc mR_init) 969 = .ok (.dup, 1) := o89 (byt_of hR_init_b10 (j := 9) rfl)
theorem dR_init_970 : decode (mcc mR_init) 970 = .ok (.bipush 35, 2) := o16 (a := 35) (byt_of hR_init_b10 (j := 10) rfl) (byt_of hR_init_b10 (j := 11) rfl) rfl
theorem dR_init_972 : decode (mcc mR_init) 972 = .ok (.bipush 32, 2) := o16 (a := 32) (byt_of hR_init_b10 (j := 12) rfl) (byt_of hR_init_b10 (j := 13) rfl) rfl
theorem dR_init_974 : decode (mcc mR_init) 974 = .ok (.iastore, 1) := o79 (byt_of hR_init_b10 (j := 14) rfl)
theorem dR_init_975 : decode (mcc mR_init) 975 = .ok (.dup, 1) := o89 (byt_of hR_init_b10 (j := 15) rfl)
theorem dR_init_976 : decode (mcc mR_init) 976 = .ok (.bipush 36, 2) := o16 (a := 36) (byt_of hR_init_b10 (j := 16) rfl) (byt_of hR_init_b10 (j := 17) rfl) rfl
theorem dR_init_978 : decode (mcc mR_init) 978 = .ok (.bipush 32, 2) := o16 (a := 32) (byt_of hR_init_b10 (j := 18) rfl) (byt_of hR_init_b10 (j := 19) rfl) rfl
theorem dR_init_980 : decode (mcc mR_init) 980 = .ok (.iastore, 1) := o79 (byt_of hR_init_b10 (j := 20) rfl)
theorem dR_init_981 : decode (mcc mR_init) 981 = .ok (.dup, 1) := o89 (byt_of hR_init_b10 (j := 21) rfl)
theorem dR_init_982 : decode (mcc mR_init) 982 = .ok (.bipush 37, 2) := o16 (a := 37) (byt_of hR_init_b10 (j := 22) rfl) (byt_of hR_init_b10 (j := 23) rfl) rfl
theorem dR_init_984 : decode (mcc mR_init) 984 = .ok (.bipush 32, 2) := o16 (a := 32) (byt_of hR_init_b10 (j := 24) rfl) (byt_of hR_init_b10 (j := 25) rfl) rfl
theorem dR_init_986 : decode (mcc mR_init) 986 = .ok (.iastore, 1) := o79 (byt_of hR_init_b10 (j := 26) rfl)
theorem dR_init_987 : decode (mcc mR_init) 987 = .ok (.dup, 1) := o89 (byt_of hR_init_b10 (j := 27) rfl)
theorem dR_init_988 : decode (mcc mR_init) 988 = .ok (.bipush 38, 2) := o16 (a := 38) (byt_of hR_init_b10 (j := 28) rfl) (byt_of hR_init_b10 (j := 29) rfl) rfl
theorem dR_init_990 : decode (mcc mR_init) 990 = .ok (.bipush 32, 2) := o16 (a := 32) (byt_of hR_init_b10 (j := 30) rfl) (byt_of hR_init_b10 (j := 31) rfl) rfl
theorem dR_init_992 : decode (mcc mR_init) 992 = .ok (.iastore, 1) := o79 (byt_of hR_init_b10 (j := 32) rfl)
theorem dR_init_993 : decode (mcc mR_init) 993 = .ok (.dup, 1) := o89 (byt_of hR_init_b10 (j := 33) rfl)
theorem dR_init_994 : decode (mcc mR_init) 994 = .ok (.bipush 39, 2) := o16 (a := 39) (byt_of hR_init_b10 (j := 34) rfl) (byt_of hR_init_b10 (j := 35) rfl) rfl
theorem dR_init_996 : decode (mcc mR_init) 996 = .ok (.bipush 32, 2) := o16 (a := 32) (byt_of hR_init_b10 (j := 36) rfl) (byt_of hR_init_b10 (j := 37) rfl) rfl
theorem dR_init_998 : decode (mcc mR_init) 998 = .ok (.iastore, 1) := o79 (byt_of hR_init_b10 (j := 38) rfl)
theorem dR_init_999 : decode (mcc mR_init) 999 = .ok (.dup, 1) := o89 (byt_of hR_init_b10 (j := 39) rfl)
theorem dR_init_1000 : decode (mcc mR_init) 1000 = .ok (.bipush 40, 2) := o16 (a := 40) (byt_of hR_init_b10 (j := 40) rfl) (byt_of hR_init_b10 (j := 41) rfl) rfl
theorem dR_init_1002 : decode (mcc mR_init) 1002 = .ok (.bipush 101, 2) := o16 (a := 101) (byt_of hR_init_b10 (j := 42) rfl) (byt_of hR_init_b10 (j := 43) rfl) rfl
theorem dR_init_1004 : decode (mcc mR_init) 1004 = .ok (.iastore, 1) := o79 (byt_of hR_init_b10 (j := 44) rfl)
theorem dR_init_1005 : decode (mcc mR_init) 1005 = .ok (.dup, 1) := o89 (byt_of hR_init_b10 (j := 45) rfl)
theorem dR_init_1006 : decode (mcc mR_init) 1006 = .ok (.bipush 41, 2) := o16 (a := 41) (byt_of hR_init_b10 (j := 46) rfl) (byt_of hR_init_b10 (j := 47) rfl) rfl
theorem dR_init_1008 : decode (mcc mR_init) 1008 = .ok (.bipush 97, 2) := o16 (a := 97) (byt_of hR_init_b10 (j := 48) rfl) (byt_of hR_init_b10 (j := 49) rfl) rfl
theorem dR_init_1010 : decode (mcc mR_init) 1010 = .ok (.iastore, 1) := o79 (byt_of hR_init_b10 (j := 50) rfl)
theorem dR_init_1011 : decode (mcc mR_init) 1011 = .ok (.dup, 1) := o89 (byt_of hR_init_b10 (j := 51) rfl)
theorem dR_init_1012 : decode (mcc mR_init) 1012 = .ok (.bipush 42, 2) := o16 (a := 42) (byt_of hR_init_b10 (j := 52) rfl) (byt_of hR_init_b10 (j := 53) rfl) rfl
theorem dR_init_1014 : decode (mcc mR_init) 1014 = .ok (.bipush 114, 2) := o16 (a := 114) (byt_of hR_init_b10 (j := 54) rfl) (byt_of hR_init_b10 (j := 55) rfl) rfl
theorem dR_init_1016 : decode (mcc mR_init) 1016 = .ok (.iastore, 1) := o79 (byt_of hR_init_b10 (j := 56) rfl)
theorem dR_init_1017 : decode (mcc mR_init) 1017 = .ok (.dup, 1) := o89 (byt_of hR_init_b10 (j := 57) rfl)
theorem dR_init_1018 : decode (mcc mR_init) 1018 = .ok (.bipush 43, 2) := o16 (a := 43) (byt_of hR_init_b10 (j := 58) rfl) (byt_of hR_init_b10 (j := 59) rfl) rfl
theorem dR_init_1020 : decode (mcc mR_init) 1020 = .ok (.bipush 32, 2) := o16 (a := 32) (byt_of hR_init_b10 (j := 60) rfl) (byt_of hR_init_b10 (j := 61) rfl) rfl
theorem dR_init_1022 : decode (mcc mR_init) 1022 = .ok (.iastore, 1) := o79 (byt_of hR_init_b10 (j := 62) rfl)
theorem dR_init_1023 : decode (mcc mR_init) 1023 = .ok (.dup, 1) := o89 (byt_of hR_init_b10 (j := 63) rfl)
theorem dR_init_1024 : decode (mcc mR_init) 1024 = .ok (.bipush 44, 2) := o16 (a := 44) (byt_of hR_init_b10 (j := 64) rfl) (byt_of hR_init_b10 (j := 65) rfl) rfl
theorem dR_init_1026 : decode (mcc mR_init) 1026 = .ok (.bipush 32, 2) := o16 (a := 32) (byt_of hR_init_b10 (j := 66) rfl) (byt_of hR_init_b10 (j := 67) rfl) rfl
theorem dR_init_1028 : decode (mcc mR_init) 1028 = .ok (.iastore, 1) := o79 (byt_of hR_init_b10 (j := 68) rfl)
theorem dR_init_1029 : decode (mcc mR_init) 1029 = .ok (.dup, 1) := o89 (byt_of hR_init_b10 (j := 69) rfl)
theorem dR_init_1030 : decode (mcc mR_init) 1030 = .ok (.bipush 45, 2) := o16 (a := 45) (byt_of hR_init_b10 (j := 70) rfl) (byt_of hR_init_b10 (j := 71) rfl) rfl
theorem dR_init_1032 : decode (mcc mR_init) 1032 = .ok (.bipush 32, 2) := o16 (a := 32) (byt_of hR_init_b10 (j := 72) rfl) (byt_of hR_init_b10 (j := 73) rfl) rfl
theorem dR_init_1034 : decode (mcc mR_init) 1034 = .ok (.iastore, 1) := o79 (byt_of hR_init_b10 (j := 74) rfl)
theorem dR_init_1035 : decode (mcc mR_init) 1035 = .ok (.dup, 1) := o89 (byt_of hR_init_b10 (j := 75) rfl)
theorem dR_init_1036 : decode (mcc mR_init) 1036 = .ok (.bipush 46, 2) := o16 (a := 46) (byt_of hR_init_b10 (j := 76) rfl) (byt_of hR_init_b10 (j := 77) rfl) rfl
theorem dR_init_1038 : decode (mcc mR_init) 1038 = .ok (.bipush 32, 2) := o16 (a := 32) (byt_of hR_init_b10 (j := 78) rfl) (byt_of hR_init_b10 (j := 79) rfl) rfl
theorem dR_init_1040 : decode (mcc mR_init) 1040 = .ok (.iastore, 1) := o79 (byt_of hR_init_b10 (j := 80) rfl)
theorem dR_init_1041 : decode (mcc mR_init) 1041 = .ok (.dup, 1) := o89 (byt_of hR_init_b10 (j := 81) rfl)
theorem dR_init_1042 : decode (mcc mR_init) 1042 = .ok (.bipush 47, 2) := o16 (a := 47) (byt_of hR_init_b10 (j := 82) rfl) (byt_of hR_init_b10 (j := 83) rfl) rfl
theorem dR_init_1044 : decode (mcc mR_init) 1044 = .ok (.bipush 32, 2) := o16 (a := 32) (byt_of hR_init_b10 (j := 84) rfl) (byt_of hR_init_b10 (j := 85) rfl) rfl
theorem dR_init_1046 : decode (mcc mR_init) 1046 = .ok (.iastore, 1) := o79 (byt_of hR_init_b10 (j := 86) rfl)
theorem dR_init_1047 : decode (mcc mR_init) 1047 = .ok (.dup, 1) := o89 (byt_of hR_init_b10 (j := 87) rfl)
theorem dR_init_1048 : decode (mcc mR_init) 1048 = .ok (.bipush 48, 2) := o16 (a := 48) (byt_of hR_init_b10 (j := 88) rfl) (byt_of hR_init_b10 (j := 89) rfl) rfl
theorem dR_init_1050 : decode (mcc mR_init) 1050 = .ok (.bipush 110, 2) := o16 (a := 110) (byt_of hR_init_b10 (j := 90) rfl) (byt_of hR_init_b10 (j := 91) rfl) rfl
theorem dR_init_1052 : decode (mcc mR_init) 1052 = .ok (.iastore, 1) := o79 (byt_of hR_init_b10 (j := 92) rfl)
theorem dR_init_1053 : decode (mcc mR_init) 1053 = .ok (.dup, 1) := o89 (byt_of hR_init_b10 (j := 93) rfl)
theorem dR_init_1054 : decode (mcc mR_init) 1054 = .ok (.bipush 49, 2) := o16 (a := 49) (byt_of hR_init_b10 (j := 94) rfl) (byt_of hR_init_b10 (j := 95) rfl) rfl
def bR_init_b11 : List Nat := [16, 101, 79, 89, 16, 50, 16, 101, 79, 89, 16, 51, 16, 100, 79, 89, 16, 52, 16, 32, 79, 89, 16, 53, 16, 32, 79, 89, 16, 54, 16, 32, 79, 89, 16, 55, 16, 32, 79, 89, 16, 56, 16, 109, 79, 89, 16, 57, 16, 97, 79, 89, 16, 58, 16, 110, 79, 89, 16, 59, 16, 121, 79, 89, 16, 60, 16, 32, 79, 89, 16, 61, 16, 32, 79, 89, 16, 62, 16, 32, 79, 89, 16, 63, 16, 32, 79, 89, 16, 64, 16, 98, 79, 89, 16, 65, 16, 97, 79, 89, 16, 66]
theorem hR_init_b11 : BL (mcc mR_init) 1056 bR_init_b11 := by decide +kernel
theorem dR_init_1056 : decode (mcc mR_init) 1056 = .ok (.bipush 101, 2) := o16 (a := 101) (byt_of hR_init_b11 (j := 0) rfl) (byt_of hR_init_b11 (j := 1) rfl) rfl
theorem dR_init_1058 : decode (mcc mR_init) 1058 = .ok (.iastore, 1) := o79 (byt_of hR_init_b11 (j := 2) rfl)
theorem dR_init_1059 : decode (mcc mR_init) 1059 = .ok (.dup, 1) := o89 (byt_of hR_init_b11 (j := 3) rfl)
theorem dR_init_1060 : decode (mcc mR_init) 1060 = .ok (.bipush 50, 2) := o16 (a := 50) (byt_of hR_init_b11 (j := 4) rfl) (byt_of hR_init_b11 (j := 5) rfl) rfl
theorem dR_init_1062 : decode (mcc mR_init) 1062 = .ok (.bipush 101, 2) := o16 (a := 101) (byt_of hR_init_b11 (j := 6) rfl) (byt_of hR_init_b11 (j := 7) rfl) rfl
theorem dR_init_1064 : decode (mcc mR_init) 1064 = .ok (.iastore, 1) := o79 (byt_of hR_init_b11 (j := 8) rfl)
theorem dR_init_1065 : decode (mcc mR_init) 1065 = .ok (.dup, 1) := o89 (byt_of hR_init_b11 (j := 9) rfl)
theorem dR_init_1066 : decode (mcc mR_init) 1066 = .ok (.bipush 51, 2) := o16 (a := 51) (byt_of hR_init_b11 (j := 10) rfl) (byt_of hR_init_b11 (j := 11) rfl) rfl
theorem dR_init_1068 : decode (mcc mR_init) 1068 = .ok (.bipush 100, 2) := o16 (a := 100) (byt_of hR_init_b11 (j := 12) rfl) (byt_of hR_init_b11 (j := 13) rfl) rfl
theorem dR_init_1070 : decode (mcc mR_init) 1070 = .ok (.iastore, 1) := o79 (byt_of hR_init_b11 (j := 14) rfl)
theorem dR_init_1071 : decode (mcc mR_init) 1071 = .ok (.dup, 1) := o89 (byt_of hR_init_b11 (j := 15) rfl)
theorem dR_init_1072 : decode (mcc mR_init) 1072 = .ok (.bipush 52, 2) := o16 (a := 52) (byt_of hR_init_b11 (j := 16) rfl) (byt_of hR_init_b11 (j := 17) rfl) rfl
theorem dR_init_1074 : decode (mcc mR_init) 1074 = .ok (.bipush 32, 2) := o16 (a := 32) (byt_of hR_init_b11 (j := 18) rfl) (byt_of hR_init_b11 (j := 19) rfl) rfl
theorem dR_init_1076 : decode (mcc mR_init) 1076 = .ok (.iastore, 1) := o79 (byt_of hR_init_b11 (j := 20) rfl)
theorem dR_init_1077 : decode (mcc mR_init) 1077 = .ok (.dup, 1) := o89 (byt_of hR_init_b11 (j := 21) rfl)
theorem dR_init_1078 : decode (mcc mR_init) 1078 = .ok (.bipush 53, 2) := o16 (a := 53) (byt_of hR_init_b11 (j := 22) rfl) (byt_of hR_init_b11 (j := 23) rfl) rfl
theorem dR_init_1080 : decode (mcc mR_init) 1080 = .ok (.bipush 32, 2) := o16 (a := 32) (byt_of hR_init_b11 (j := 24) rfl) (byt_of hR_init_b11 (j := 25) rfl) rfl
theorem dR_init_1082 : decode (mcc mR_init) 1082 = .ok (.iastore, 1) := o79 (byt_of hR_init_b11 (j := 26) rfl)
theorem dR_init_1083 : decode (mcc mR_init) 1083 = .ok (.dup, 1) := o89 (byt_of hR_init_b11 (j := 27) rfl)
theorem dR_init_1084 : decode (mcc mR_init) 1084 = .ok (.bipush 54, 2) := o16 (a := 54) (byt_of hR_init_b11 (j := 28) rfl) (byt_of hR_init_b11 (j := 29) rfl) rfl
theorem dR_init_1086 : decode (mcc mR_init) 1086 = .ok (.bipush 32, 2) := o16 (a := 32) (byt_of hR_init_b11 (j := 30) rfl) (byt_of hR_init_b11 (j := 31) rfl) rfl
theorem dR_init_1088 : decode (mcc mR_init) 1088 = .ok (.iastore, 1) := o79 (byt_of hR_init_b11 (j := 32) rfl)
theorem dR_init_1089 : decode (mcc mR_init) 1089 = .ok (.dup, 1) := o89 (byt_of hR_init_b11 (j := 33) rfl)
theorem dR_init_1090 : decode (mcc mR_init) 1090 = .ok (.bipush 55, 2) := o16 (a := 55) (byt_of hR_init_b11 (j := 34) rfl) (byt_of hR_init_b11 (j := 35) rfl) rfl
theorem dR_init_1092 : decode (mcc mR_init) 1092 = .ok (.bipush 32, 2) := o16 (a := 32) (byt_of hR_init_b11 (j := 36) rfl) (byt_of hR_init_b11 (j := 37) rfl) rfl
theorem dR_init_1094 : decode (mcc mR_init) 1094 = .ok (.iastore, 1) := o79 (byt_of hR_init_b11 (j := 38) rfl)
theorem dR_init_1095 : decode (mcc mR_init) 1095 = .ok (.dup, 1) := o89 (byt_of hR_init_b11 (j := 39) rfl)
theorem dR_init_1096 : decode (mcc mR_init) 1096 = .ok (.bipush 56, 2) := o16 (a := 56) (byt_of hR_init_b11 (j := 40) rfl) (byt_of hR_init_b11 (j := 41) rfl) rfl
theorem dR_init_1098 : decode (mcc mR_init) 1098 = .ok (.bipush 109, 2) := o16 (a := 109) (byt_of hR_init_b11 (j := 42) rfl) (byt_of hR_init_b11 (j := 43) rfl) rfl
theorem dR_init_1100 : decode (mcc mR_init) 1100 = .ok (.iastore, 1) := o79 (byt_of hR_init_b11 (j := 44) rfl)
theorem dR_init_1101 : decode (mcc mR_init) 1101 = .ok (.dup, 1) := o89 (byt_of hR_init_b11 (j := 45) rfl)
theorem dR_init_1102 : decode (mcc mR_init) 1102 = .ok (.bipush 57, 2) := o16 (a := 57) (byt_of hR_init_b11 (j := 46) rfl) (byt_of hR_init_b11 (j := 47) rfl) rfl
theorem dR_init_1104 : decode (mcc mR_init) 1104 = .ok (.bipush 97, 2) := o16 (a := 97) (byt_of hR_init_b11 (j := 48) rfl) (byt_of hR_init_b11 (j := 49) rfl) rfl
theorem dR_init_1106 : decode (mcc mR_init) 1106 = .ok (.iastore, 1) := o79 (byt_of hR_init_b11 (j := 50) rfl)
theorem dR_init_1107 : decode (mcc mR_init) 1107 = .ok (.dup, 1) := o89 (byt_of hR_init_b11 (j := 51) rfl)
theorem dR_init_1108 : decode (mcc mR_init) 1108 = .ok (.bipush 58, 2) := o16 (a := 58) (byt_of hR_init_b11 (j := 52) rfl) (byt_of hR_init_b11 (j := 53) rfl) rfl
theorem dR_init_1110 : decode (mcc mR_init) 1110 = .ok (.bipush 110, 2) := o16 (a := 110) (byt_of hR_init_b11 (j := 54) rfl) (byt_of hR_init_b11 (j := 55) rfl) rfl
theorem dR_init_1112 : decode (mcc mR_init) 1112 = .ok (.iastore, 1) := o79 (byt_of hR_init_b11 (j := 56) rfl)
theorem dR_init_1113 : decode (mcc mR_init) 1113 = .ok (.dup, 1) := o89 (byt_of hR_init_b11 (j := 57) rfl)
theorem dR_init_1114 : decode (mcc mR_init) 1114 = .ok (.bipush 59, 2) := o16 (a := 59) (byt_of hR_init_b11 (j := 58) rfl) (byt_of hR_init_b11 (j := 59) rfl) rfl
theorem dR_init_1116 : decode (mcc mR_init) 1116 = .ok (.bipush 121, 2) := o16 (a := 121) (byt_of hR_init_b11 (j := 60) rfl) (byt_of hR_init_b11 (j := 61) rfl) rfl
theorem dR_init_1118 : decode (mcc mR_init) 1118 = .ok (.iastore, 1) := o79 (byt_of hR_init_b11 (j := 62) rfl)
theorem dR_init_1119 : decode (mcc mR_init) 1119 = .ok (.dup, 1) := o89 (byt_of hR_init_b11 (j := 63) rfl)
theorem dR_init_1120 : decode (mcc mR_init) 1120 = .ok (.bipush 60, 2) := o16 (a := 60) (byt_of hR_init_b11 (j := 64) rfl) (byt_of hR_init_b11 (j := 65) rfl) rfl
theorem dR_init_1122 : decode (mcc mR_init) 1122 = .ok (.bipush 32, 2) := o16 (a := 32) (byt_of hR_init_b11 (j := 66) rfl) (byt_of hR_init_b11 (j := 67) rfl) rfl
theorem dR_init_1124 : decode (mcc mR_init) 1124 = .ok (.iastore, 1) := o79 (byt_of hR_init_b11 (j := 68) rfl)
theorem dR_init_1125 : decode (mcc mR_init) 1125 = .ok (.dup, 1) := o89 (byt_of hR_init_b11 (j := 69) rfl)
theorem dR_init_1126 : decode (mcc mR_init) 1126 = .ok (.bipush 61, 2) := o16 (a := 61) (byt_of hR_init_b11 (j := 70) rfl) (byt_of hR_init_b11 (j := 71) rfl) rfl
theorem dR_init_1128 : decode (mcc mR_init) 1128 = .ok (.bipush 32, 2) := o16 (a := 32) (byt_of hR_init_b11 (j := 72) rfl) (byt_of hR_init_b11 (j := 73) rfl) rfl
theorem dR_init_1130 : decode (mcc mR_init) 1130 = .ok (.iastore, 1) := o79 (byt_of hR_init_b11 (j := 74) rfl)
theorem dR_init_1131 : decode (mcc mR_init) 1131 = .ok (.dup, 1) := o89 (byt_of hR_init_b11 (j := 75) rfl)
theorem dR_init_1132 : decode (mcc mR_init) 1132 = .ok (.bipush 62, 2) := o16 (a := 62) (byt_of hR_init_b11 (j := 76) rfl) (byt_of hR_init_b11 (j := 77) rfl) rfl
theorem dR_init_1134 : decode (mcc mR_init) 1134 = .ok (.bipush 32, 2) := o16 (a := 32) (byt_of hR_init_b11 (j := 78) rfl) (byt_of hR_init_b11 (j := 79) rfl) rfl
theorem dR_init_1136 : decode (mcc mR_init) 1136 = .ok (.iastore, 1) := o79 (byt_of hR_init_b11 (j := 80) rfl)
theorem dR_init_1137 : decode (mcc mR_init) 1137 = .ok (.dup, 1) := o89 (byt_of hR_init_b11 (j := 81) rfl)
theorem dR_init_1138 : decode (mcc mR_init) 1138 = .ok (.bipush 63, 2) := o16 (a := 63) (byt_of hR_init_b11 (j := 82) rfl) (byt_of hR_init_b11 (j := 83) rfl) rfl
theorem dR_init_1140 : decode (mcc mR_init) 1140 = .ok (.bipush 32, 2) := o16 (a := 32) (byt_of hR_init_b11 (j := 84) rfl) (byt_of hR_init_b11 (j := 85) rfl) rfl
theorem dR_init_1142 : decode (mcc mR_init) 1142 = .ok (.iastore, 1) := o79 (byt_of hR_init_b11 (j := 86) rfl)
theorem dR_init_1143 : decode (mcc mR_init) 1143 = .ok (.dup, 1) := o89 (byt_of hR_init_b11 (j := 87) rfl)
theorem dR_init_1144 : decode (mcc mR_init) 1144 = .ok (.bipush 64, 2) := o16 (a := 64) (byt_of hR_init_b11 (j := 88) rfl) (byt_of hR_init_b11 (j := 89) rfl) rfl
theorem dR_init_1146 : decode (mcc mR_init) 1146 = .ok (.bipush 98, 2) := o16 (a := 98) (byt_of hR_init_b11 (j := 90) rfl) (byt_of hR_init_b11 (j := 91) rfl) rfl
theorem dR_init_1148 : decode (mcc mR_init) 1148 = .ok (.iastore, 1) := o79 (byt_of hR_init_b11 (j := 92) rfl)
theorem dR_init_1149 : decode (mcc mR_init) 1149 = .ok (.dup, 1) := o89 (byt_of hR_init_b11 (j := 93) rfl)
theorem dR_init_1150 : decode (mcc mR_init) 1150 = .ok (.bipush 65, 2) := o16 (a := 65) (byt_of hR_init_b11 (j := 94) rfl) (byt_of hR_init_b11 (j := 95) rfl) rfl
def bR_init_b12 : List Nat := [16, 97, 79, 89, 16, 66, 16, 115, 79, 89, 16, 67, 16, 101, 79, 89, 16, 68, 16, 32, 79, 89, 16, 69, 16, 32, 79, 89, 16, 70, 16, 32, 79, 89, 16, 71, 16, 32, 79, 89, 16, 72, 16, 111, 79, 89, 16, 73, 16, 114, 79, 89, 16, 74, 16, 32, 79, 89, 16, 75, 16, 32, 79, 89, 16, 76, 16, 32, 79, 89, 16, 77, 16, 32, 79, 89, 16, 78, 16, 32, 79, 89, 16, 79, 16, 32, 79, 89, 16, 80, 16, 97, 79, 89, 16, 81, 16, 110, 79, 89, 16, 82]
theorem hR_init_b12 : BL (mcc mR_init) 1152 bR_init_b12 := by decide +kernel
theorem dR_init_1152 : decode (mcc mR_init) 1152 = .ok (.bipush 97, 2) := o16 (a := 97) (byt_of hR_init_b12 (j := 0) rfl) (byt_of hR_init_b12 (j := 1) rfl) rfl
theorem dR_init_1154 : decode (mcc mR_init) 1154 = .ok (.iastore, 1) := o79 (byt_of hR_init_b12 (j := 2) rfl)
theorem dR_init_1155 : decode (mcc mR_init) 1155 = .ok (.dup, 1) := o89 (byt_of hR_init_b12 (j := 3) rfl)
theorem dR_init_1156 : decode (mcc mR_init) 1156 = .ok (.bipush 66, 2) := o16 (a := 66) (byt_of hR_init_b12 (j := 4) rfl) (byt_of hR_init_b12 (j := 5) rfl) rfl
theorem dR_init_1158 : decode (mcc mR_init) 1158 = .ok (.bipush 115, 2) := o16 (a := 115) (byt_of hR_init_b12 (j := 6) rfl) (byt_of hR_init_b12 (j := 7) rfl) rfl
theorem dR_init_1160 : decode (mcc mR_init) 1160 = .ok (.iastore, 1) := o79 (byt_of hR_init_b12 (j := 8) rfl)
theorem dR_init_1161 : decode (mcc mR_init) 1161 = .ok (.dup, 1) := o89 (byt_of hR_init_b12 (j := 9) rfl)
theorem dR_init_1162 : decode (mcc mR_init) 1162 = .ok (.bipush 67, 2) := o16 (a := 67) (byt_of hR_init_b12 (j := 10) rfl) (byt_of hR_init_b12 (j := 11) rfl) rfl
theorem dR_init_1164 : decode (mcc mR_init) 1164 = .ok (.bipush 101, 2) := o16 (a := 101) (byt_of hR_init_b12 (j := 12) rfl) (byt_of hR_init_b12 (j := 13) rfl) rfl
theorem dR_init_1166 : decode (mcc mR_init) 1166 = .ok (.iastore, 1) := o79 (byt_of hR_init_b12 (j := 14) rfl)
theorem dR_init_1167 : decode (mcc mR_init) 1167 = .ok (.dup, 1) := o89 (byt_of hR_init_b12 (j := 15) rfl)
theorem dR_init_1168 : decode (mcc mR_init) 1168 = .ok (.bipush 68, 2) := o16 (a := 68) (byt_of hR_init_b12 (j := 16) rfl) (byt_of hR_init_b12 (j := 17) rfl) rfl
theorem dR_init_1170 : decode (mcc mR_init) 1170 = .ok (.bipush 32, 2) := o16 (a := 32) (byt_of hR_init_b12 (j := 18) rfl) (byt_of hR_init_b12 (j := 19) rfl) rfl
theorem dR_init_1172 : decode (mcc mR_init) 1172 = .ok (.iastore, 1) := o79 (byt_of hR_init_b12 (j := 20) rfl)
theorem dR_init_1173 : decode (mcc mR_init) 1173 = .ok (.dup, 1) := o89 (byt_of hR_init_b12 (j := 21) rfl)
theorem dR_init_1174 : decode (mcc mR_init) 1174 = .ok (.bipush 69, 2) := o16 (a := 69) (byt_of hR_init_b12 (j := 22) rfl) (byt_of hR_init_b12 (j := 23) rfl) rfl
theorem dR_init_1176 : decode (mcc mR_init) 1176 = .ok (.bipush 32, 2) := o16 (a := 32) (byt_of hR_init_b12 (j := 24) rfl) (byt_of hR_init_b12 (j := 25) rfl) rfl
theorem dR_init_1178 : decode (mcc mR_init) 1178 = .ok (.iastore, 1) := o79 (byt_of hR_init_b12 (j := 26) rfl)
theorem dR_init_1179 : decode (mcc mR_init) 1179 = .ok (.dup, 1) := o89 (byt_of hR_init_b12 (j := 27) rfl)
theorem dR_init_1180 : decode (mcc mR_init) 1180 = .ok (.bipush 70, 2) := o16 (a := 70) (byt_of hR_init_b12 (j := 28) rfl) (byt_of hR_init_b12 (j := 29) rfl) rfl
theorem dR_init_1182 : decode (mcc mR_init) 1182 = .ok (.bipush 32, 2) := o16 (a := 32) (byt_of hR_init_b12 (j := 30) rfl) (byt_of hR_init_b12 (j := 31) rfl) rfl
theorem dR_init_1184 : decode (mcc mR_init) 1184 = .ok (.iastore, 1) := o79 (byt_of hR_init_b12 (j := 32) rfl)
theorem dR_init_1185 : decode (mcc mR_init) 1185 = .ok (.dup, 1) := o89 (byt_of hR_init_b12 (j := 33) rfl)
theorem dR_init_1186 : decode (mcc mR_init) 1186 = .ok (.bipush 71, 2) := o16 (a := 71) (byt_of hR_init_b12 (j := 34) rfl) (byt_of hR_init_b12 (j := 35) rfl) rfl
theorem dR_init_1188 : decode (mcc mR_init) 1188 = .ok (.bipush 32, 2) := o16 (a := 32) (byt_of hR_init_b12 (j := 36) rfl) (byt_of hR_init_b12 (j := 37) rfl) rfl
theorem dR_init_1190 : decode (mcc mR_init) 1190 = .ok (.iastore, 1) := o79 (byt_of hR_init_b12 (j := 38) rfl)
theorem dR_init_1191 : decode (mcc mR_init) 1191 = .ok (.dup, 1) := o89 (byt_of hR_init_b12 (j := 39) rfl)
theorem dR_init_1192 : decode (mcc mR_init) 1192 = .ok (.bipush 72, 2) := o16 (a := 72) (byt_of hR_init_b12 (j := 40) rfl) (byt_of hR_init_b12 (j := 41) rfl) rfl
theorem dR_init_1194 : decode (mcc mR_init) 1194 = .ok (.bipush 111, 2) := o16 (a := 111) (byt_of hR_init_b12 (j := 42) rfl) (byt_of hR_init_b12 (j := 43) rfl) rfl
theorem dR_init_1196 : decode (mcc mR_init) 1196 = .ok (.iastore, 1) := o79 (byt_of hR_init_b12 (j := 44) rfl)
theorem dR_init_1197 : decode (mcc mR_init) 1197 = .ok (.dup, 1) := o89 (byt_of hR_init_b12 (j := 45) rfl)
theorem dR_init_1198 : decode (mcc mR_init) 1198 = .ok (.bipush 73, 2) := o16 (a := 73) (byt_of hR_init_b12 (j := 46) rfl) (byt_of hR_init_b12 (j := 47) rfl) rfl
theorem dR_init_1200 : decode (mcc mR_init) 1200 = .ok (.bipush 114, 2) := o16 (a := 114) (byt_of hR_init_b12 (j := 48) rfl) (byt_of hR_init_b12 (j := 49) rfl) rfl
theorem dR_init_1202 : decode (mcc mR_init) 1202 = .ok (.iastore, 1) := o79 (byt_of hR_init_b12 (j := 50) rfl)
theorem dR_init_1203 : decode (mcc mR_init) 1203 = .ok (.dup, 1) := o89 (byt_of hR_init_b12 (j := 51) rfl)
theorem dR_init_1204 : decode (mcc mR_init) 1204 = .ok (.bipush 74, 2) := o16 (a := 74) (byt_of hR_init_b12 (j := 52) rfl) (byt_of hR_init_b12 (j := 53) rfl) rfl
theorem dR_init_1206 : decode (mcc mR_init) 1206 = .ok (.bipush 32, 2) := o16 (a := 32) (byt_of hR_init_b12 (j := 54) rfl) (byt_of hR_init_b12 (j := 55) rfl) rfl
theorem dR_init_1208 : decode (mcc mR_init) 1208 = .ok (.iastore, 1) := o79 (byt_of hR_init_b12 (j := 56) rfl)
theorem dR_init_1209 : decode (mcc mR_init) 1209 = .ok (.dup, 1) := o89 (byt_of hR_init_b12 (j := 57) rfl)
theorem dR_init_1210 : decode (mcc mR_init) 1210 = .ok (.bipush 75, 2) := o16 (a := 75) (byt_of hR_init_b12 (j := 58) rfl) (byt_of hR_init_b12 (j := 59) rfl) rfl
theorem dR_init_1212 : decode (mcc mR_init) 1212 = .ok (.bipush 32, 2) := o16 (a := 32) (byt_of hR_init_b12 (j := 60) rfl) (byt_of hR_init_b12 (j := 61) rfl) rfl
theorem dR_init_1214 : decode (mcc mR_init) 1214 = .ok (.iastore, 1) := o79 (byt_of hR_init_b12 (j := 62) rfl)
theorem dR_init_1215 : decode (mcc mR_init) 1215 = .ok (.dup, 1) := o89 (byt_of hR_init_b12 (j := 63) rfl)
theorem dR_init_1216 : decode (mcc mR_init) 1216 = .ok (.bipush 76, 2) := o16 (a := 76) (byt_of hR_init_b12 (j := 64) rfl) (byt_of hR_init_b12 (j := 65) rfl) rfl
theorem dR_init_1218 : decode (mcc mR_init) 1218 = .ok (.bipush 32, 2) := o16 (a := 32) (byt_of hR_init_b12 (j := 66) rfl) (byt_of hR_init_b12 (j := 67) rfl) rfl
theorem dR_init_1220 : decode (mcc mR_init) 1220 = .ok (.iastore, 1) := o79 (byt_of hR_init_b12 (j := 68) rfl)
theorem dR_init_1221 : decode (mcc mR_init) 1221 = .ok (.dup, 1) := o89 (byt_of hR_init_b12 (j := 69) rfl)
theorem dR_init_1222 : decode (mcc mR_init) 1222 = .ok (.bipush 77, 2) := o16 (a := 77) (byt_of hR_init_b12 (j := 70) rfl) (byt_of hR_init_b12 (j := 71) rfl) rfl
theorem dR_init_1224 : decode (mcc mR_init) 1224 = .ok (.bipush 32, 2) := o16 (a := 32) (byt_of hR_init_b12 (j := 72) rfl) (byt_of hR_init_b12 (j := 73) rfl) rfl
theorem dR_init_1226 : decode (mcc mR_init) 1226 = .ok (.iastore, 1) := o79 (byt_of hR_init_b12 (j := 74) rfl)
theorem dR_init_1227 : decode (mcc mR_init) 1227 = .ok (.dup, 1) := o89 (byt_of hR_init_b12 (j := 75) rfl)
theorem dR_init_1228 : decode (mcc mR_init) 1228 = .ok (.bipush 78, 2) := o16 (a := 78) (byt_of hR_init_b12 (j := 76) rfl) (byt_of hR_init_b12 (j := 77) rfl) rfl
theorem dR_init_1230 : decode (mcc mR_init) 1230 = .ok (.bipush 32, 2) := o16 (a := 32) (byt_of hR_init_b12 (j := 78) rfl) (byt_of hR_init_b12 (j := 79) rfl) rfl
theorem dR_init_1232 : decode (mcc mR_init) 1232 = .ok (.iastore, 1) := o79 (byt_of hR_init_b12 (j := 80) rfl)
theorem dR_init_1233 : decode (mcc mR_init) 1233 = .ok (.dup, 1) := o89 (byt_of hR_init_b12 (j := 81) rfl)
theorem dR_init_1234 : decode (mcc mR_init) 1234 = .ok (.bipush 79, 2) := o16 (a := 79) (byt_of hR_init_b12 (j := 82) rfl) (byt_of hR_init_b12 (j := 83) rfl) rfl
theorem dR_init_1236 : decode (mcc mR_init) 1236 = .ok (.bipush 32, 2) := o16 (a := 32) (byt_of hR_init_b12 (j := 84) rfl) (byt_of hR_init_b12 (j := 85) rfl) rfl
theorem dR_init_1238 : decode (mcc mR_init) 1238 = .ok (.iastore, 1) := o79 (byt_of hR_init_b12 (j := 86) rfl)
theorem dR_init_1239 : decode (mcc mR_init) 1239 = .ok (.dup, 1) := o89 (byt_of hR_init_b12 (j := 87) rfl)
theorem dR_init_1240 : decode (mcc mR_init) 1240 = .ok (.bipush 80, 2) := o16 (a := 80) (byt_of hR_init_b12 (j := 88) rfl) (byt_of hR_init_b12 (j := 89) rfl) rfl
theorem dR_init_1242 : decode (mcc mR_init) 1242 = .ok (.bipush 97, 2) := o16 (a := 97) (byt_of hR_init_b12 (j := 90) rfl) (byt_of hR_init_b12 (j := 91) rfl) rfl
theorem dR_init_1244 : decode (mcc mR_init) 1244 = .ok (.iastore, 1) := o79 (byt_of hR_init_b12 (j := 92) rfl)
theorem dR_init_1245 : decode (mcc mR_init) 1245 = .ok (.dup, 1) := o89 (byt_of hR_init_b12 (j := 93) rfl)
theorem dR_init_1246 : decode (mcc mR_init) 1246 = .ok (.bipush 81, 2) := o16 (a := 81) (byt_of hR_init_b12 (j := 94) rfl) (byt_of hR_init_b12 (j := 95) rfl) rfl
def bR_init_b13 : List Nat := [16, 110, 79, 89, 16, 82, 16, 100, 79, 89, 16, 83, 16, 32, 79, 89, 16, 84, 16, 32, 79, 89, 16, 85, 16, 32, 79, 89, 16, 86, 16, 32, 79, 89, 16, 87, 16, 32, 79, 89, 16, 88, 16, 110, 79, 89, 16, 89, 16, 111, 79, 89, 16, 90, 16, 116, 79, 89, 16, 91, 16, 32, 79, 89, 16, 92, 16, 32, 79, 89, 16, 93, 16, 32, 79, 89, 16, 94, 16, 32, 79, 89, 16, 95, 16, 32, 79, 181, 0, 110, 42, 17, 0, 200, 188, 10, 181, 0, 113, 42, 17, 0]
theorem hR_init_b13 : BL (mcc mR_init) 1248 bR_init_b13 := by decide +kernel
theorem dR_init_1248 : decode (mcc mR_init) 1248 = .ok (.bipush 110, 2) := o16 (a := 110) (byt_of hR_init_b13 (j := 0) rfl) (byt_of hR_init_b13 (j := 1) rfl) rfl
theorem dR_init_1250 : decode (mcc mR_init) 1250 = .ok (.iastore, 1) := o79 (byt_of hR_init_b13 (j := 2) rfl)
theorem dR_init_1251 : decode (mcc mR_init) 1251 = .ok (.dup, 1) := o89 (byt_of hR_init_b13 (j := 3) rfl)
theorem dR_init_1252 : decode (mcc mR_init) 1252 = .ok (.bipush 82, 2) := o16 (a := 82) (byt_of hR_init_b13 (j := 4) rfl) (byt_of hR_init_b13 (j := 5) rfl) rfl
theorem dR_init_1254 : decode (mcc mR_init) 1254 = .ok (.bipush 100, 2) := o16 (a := 100) (byt_of hR_init_b13 (j := 6) rfl) (byt_of hR_init_b13 (j := 7) rfl) rfl
theorem dR_init_1256 : decode (mcc mR_init) 1256 = .ok (.iastore, 1) := o79 (byt_of hR_init_b13 (j := 8) rfl)
theorem dR_init_1257 : decode (mcc mR_init) 1257 = .ok (.dup, 1) := o89 (byt_of hR_init_b13 (j := 9) rfl)
theorem dR_init_1258 : decode (mcc mR_init) 1258 = .ok (.bipush 83, 2) := o16 (a := 83) (byt_of hR_init_b13 (j := 10) rfl) (byt_of hR_init_b13 (j := 11) rfl) rfl
theorem dR_init_1260 : decode (mcc mR_init) 1260 = .ok (.bipush 32, 2) := o16 (a := 32) (byt_of hR_init_b13 (j := 12) rfl) (byt_of hR_init_b13 (j := 13) rfl) rfl
theorem dR_init_1262 : decode (mcc mR_init) 1262 = .ok (.iastore, 1) := o79 (byt_of hR_init_b13 (j := 14) rfl)
theorem dR_init_1263 : decode (mcc mR_init) 1263 = .ok (.dup, 1) := o89 (byt_of hR_init_b13 (j := 15) rfl)
theorem dR_init_1264 : decode (mcc mR_init) 1264 = .ok (.bipush 84, 2) := o16 (a := 84) (byt_of hR_init_b13 (j := 16) rfl) (byt_of hR_init_b13 (j := 17) rfl) rfl
theorem dR_init_1266 : decode (mcc mR_init) 1266 = .ok (.bipush 32, 2) := o16 (a := 32) (byt_of hR_init_b13 (j := 18) rfl) (byt_of hR_init_b13 (j := 19) rfl) rfl
theorem dR_init_1268 : decode (mcc mR_init) 1268 = .ok (.iastore, 1) := o79 (byt_of hR_init_b13 (j := 20) rfl)
theorem dR_init_1269 : decode (mcc mR_init) 1269 = .ok (.dup, 1) := o89 (byt_of hR_init_b13 (j := 21) rfl)
theorem dR_init_1270 : decode (mcc mR_init) 1270 = .ok (.bipush 85, 2) := o16 (a := 85) (byt_of hR_init_b13 (j := 22) rfl) (byt_of hR_init_b13 (j := 23) rfl) rfl
theorem dR_init_1272 : decode (mcc mR_init) 1272 = .ok (.bipush 32, 2) := o16 (a := 32) (byt_of hR_init_b13 (j := 24) rfl) (byt_of hR_init_b13 (j := 25) rfl) rfl
theorem dR_init_1274 : decode (mcc mR_init) 1274 = .ok (.iastore, 1) := o79 (byt_of hR_init_b13 (j := 26) rfl)
theorem dR_init_1275 : decode (mcc mR_init) 1275 = .ok (.dup, 1) := o89 (byt_of hR_init_b13 (j := 27) rfl)
theorem dR_init_1276 : decode (mcc mR_init) 1276 = .ok (.bipush 86, 2) := o16 (a := 86) (byt_of hR_init_b13 (j := 28) rfl) (byt_of hR_init_b13 (j := 29) rfl) rfl
theorem dR_init_1278 : decode (mcc mR_init) 1278 = .ok (.bipush 32, 2) := o16 (a := 32) (byt_of hR_init_b13 (j := 30) rfl) (byt_of hR_init_b13 (j := 31) rfl) rfl
theorem dR_init_1280 : decode (mcc mR_init) 1280 = .ok (.iastore, 1) := o79 (byt_of hR_init_b13 (j := 32) rfl)
theorem dR_init_1281 : decode (mcc mR_init) 1281 = .ok (.dup, 1) := o89 (byt_of hR_init_b13 (j := 33) rfl)
theorem dR_init_1282 : decode (mcc mR_init) 1282 = .ok (.bipush 87, 2) := o16 (a := 87) (byt_of hR_init_b13 (j := 34) rfl) (byt_of hR_init_b13 (j := 35) rfl) rfl
theorem dR_init_1284 : decode (mcc mR_init) 1284 = .ok (.bipush 32, 2) := o16 (a := 32) (byt_of hR_init_b13 (j := 36) rfl) (byt_of hR_init_b13 (j := 37) rfl) rfl
theorem dR_init_1286 : decode (mcc mR_init) 1286 = .ok (.iastore, 1) := o79 (byt_of hR_init_b13 (j := 38) rfl)
theorem dR_init_1287 : decode (mcc mR_init) 1287 = .ok (.dup, 1) := o89 (byt_of hR_init_b13 (j := 39) rfl)
theorem dR_init_1288 : decode (mcc mR_init) 1288 = .ok (.bipush 88, 2) := o16 (a := 88) (byt_of hR_init_b13 (j := 40) rfl) (byt_of hR_init_b13 (j := 41) rfl) rfl
theorem dR_init_1290 : decode (mcc mR_init) 1290 = .ok (.bipush 110, 2) := o16 (a := 110) (byt_of hR_init_b13 (j := 42) rfl) (byt_of hR_init_b13 (j := 43) rfl) rfl
theorem dR_init_1292 : decode (mcc mR_init) 1292 = .ok (.iastore, 1) := o79 (byt_of hR_init_b13 (j := 44) rfl)
theorem dR_init_1293 : decode (mcc mR_init) 1293 = .ok (.dup, 1) := o89 (byt_of hR_init_b13 (j := 45) rfl)
theorem dR_init_1294 : decode (mcc mR_init) 1294 = .ok (.bipush 89, 2) := o16 (a := 89) (byt_of hR_init_b13 (j := 46) rfl) (byt_of hR_init_b13 (j := 47) rfl) rfl
theorem dR_init_1296 : decode (mcc mR_init) 1296 = .ok (.bipush 111, 2) := o16 (a := 111) (byt_of hR_init_b13 (j := 48) rfl) (byt_of hR_init_b13 (j := 49) rfl) rfl
theorem dR_init_1298 : decode (mcc mR_init) 1298 = .ok (.iastore, 1) := o79 (byt_of hR_init_b13 (j := 50) rfl)
theorem dR_init_1299 : decode (mcc mR_init) 1299 = .ok (.dup, 1) := o89 (byt_of hR_init_b13 (j := 51) rfl)
theorem dR_init_1300 : decode (mcc mR_init) 1300 = .ok (.bipush 90, 2) := o16 (a := 90) (byt_of hR_init_b13 (j := 52) rfl) (byt_of hR_init_b13 (j := 53) rfl) rfl
theorem dR_init_1302 : decode (mcc mR_init) 1302 = .ok (.bipush 116, 2) := o16 (a := 116) (byt_of hR_init_b13 (j := 54) rfl) (byt_of hR_init_b13 (j := 55) rfl) rfl
theorem dR_init_1304 : decode (mcc mR_init) 1304 = .ok (.iastore, 1) := o79 (byt_of hR_init_b13 (j := 56) rfl)
theorem dR_init_1305 : decode (mcc mR_init) 1305 = .ok (.dup, 1) := o89 (byt_of hR_init_b13 (j := 57) rfl)
theorem dR_init_1306 : decode (mcc mR_init) 1306 = .ok (.bipush 91, 2) := o16 (a := 91) (byt_of hR_init_b13 (j := 58) rfl) (byt_of hR_init_b13 (j := 59) rfl) rfl
theorem dR_init_1308 : decode (mcc mR_init) 1308 = .ok (.bipush 32, 2) := o16 (a := 32) (byt_of hR_init_b13 (j := 60) rfl) (byt_of hR_init_b13 (j := 61) rfl) rfl
theorem dR_init_1310 : decode (mcc mR_init) 1310 = .ok (.iastore, 1) := o79 (byt_of hR_init_b13 (j := 62) rfl)
theorem dR_init_1311 : decode (mcc mR_init) 1311 = .ok (.dup, 1) := o89 (byt_of hR_init_b13 (j := 63) rfl)
theorem dR_init_1312 : decode (mcc mR_init) 1312 = .ok (.bipush 92, 2) := o16 (a := 92) (byt_of hR_init_b13 (j := 64) rfl) (byt_of hR_init_b13 (j := 65) rfl) rfl
theorem dR_init_1314 : decode (mcc mR_init) 1314 = .ok (.bipush 32, 2) := o16 (a := 32) (byt_of hR_init_b13 (j := 66) rfl) (byt_of hR_init_b13 (j := 67) rfl) rfl
theorem dR_init_1316 : decode (mcc mR_init) 1316 = .ok (.iastore, 1) := o79 (byt_of hR_init_b13 (j := 68) rfl)
theorem dR_init_1317 : decode (mcc mR_init) 1317 = .ok (.dup, 1) := o89 (byt_of hR_init_b13 (j := 69) rfl)
theorem dR_init_1318 : decode (mcc mR_init) 1318 = .ok (.bipush 93, 2) := o16 (a := 93) (byt_of hR_init_b13 (j := 70) rfl) (byt_of hR_init_b13 (j := 71) rfl) rfl
theorem dR_init_1320 : decode (mcc mR_init) 1320 = .ok (.bipush 32, 2) := o16 (a := 32) (byt_of hR_init_b13 (j := 72) rfl) (byt_of hR_init_b13 (j := 73) rfl) rfl
theorem dR_init_1322 : decode (mcc mR_init) 1322 = .ok (.iastore, 1) := o79 (byt_of hR_init_b13 (j := 74) rfl)
theorem dR_init_1323 : decode (mcc mR_init) 1323 = .ok (.dup, 1) := o89 (byt_of hR_init_b13 (j := 75) rfl)
theorem dR_init_1324 : decode (mcc mR_init) 1324 = .ok (.bipush 94, 2) := o16 (a := 94) (byt_of hR_init_b13 (j := 76) rfl) (byt_of hR_init_b13 (j := 77) rfl) rfl
theorem dR_init_1326 : decode (mcc mR_init) 1326 = .ok (.bipush 32, 2) := o16 (a := 32) (byt_of hR_init_b13 (j := 78) rfl) (byt_of hR_init_b13 (j := 79) rfl) rfl
theorem dR_init_1328 : decode (mcc mR_init) 1328 = .ok (.iastore, 1) := o79 (byt_of hR_init_b13 (j := 80) rfl)
theorem dR_init_1329 : decode (mcc mR_init) 1329 = .ok (.dup, 1) := o89 (byt_of hR_init_b13 (j := 81) rfl)
theorem dR_init_1330 : decode (mcc mR_init) 1330 = .ok (.bipush 95, 2) := o16 (a := 95) (byt_of hR_init_b13 (j := 82) rfl) (byt_of hR_init_b13 (j := 83) rfl) rfl
theorem dR_init_1332 : decode (mcc mR_init) 1332 = .ok (.bipush 32, 2) := o16 (a := 32) (byt_of hR_init_b13 (j := 84) rfl) (byt_of hR_init_b13 (j := 85) rfl) rfl
theorem dR_init_1334 : decode (mcc mR_init) 1334 = .ok (.iastore, 1) := o79 (byt_of hR_init_b13 (j := 86) rfl)
theorem dR_init_1335 : decode (mcc mR_init) 1335 = .ok (.putfield 110, 3) := o181 (a := 0) (b := 110) (byt_of hR_init_b13 (j := 87) rfl) (byt_of hR_init_b13 (j := 88) rfl) (byt_of hR_init_b13 (j := 89) rfl) rfl
theorem dR_init_1338 : decode (mcc mR_init) 1338 = .ok (.aload_n 0, 1) := o42 (byt_of hR_init_b13 (j := 90) rfl)
theorem dR_init_1339 : decode (mcc mR_init) 1339 = .ok (.sipush 200, 3) := o17 (a := 0) (b := 200) (byt_of hR_init_b13 (j := 91) rfl) (byt_of hR_init_b13 (j := 92) rfl) (byt_of hR_init_b13 (j := 93) rfl) rfl
theorem dR_init_1342 : decode (mcc mR_init) 1342 = .ok (.newarray .int, 2) := o188 (byt_of hR_init_b13 (j := 94) rfl) (byt_of hR_init_b13 (j := 95) rfl)
def bR_init_b14 : List Nat := [181, 0, 113, 42, 17, 0, 200, 188, 10, 181, 0, 116, 42, 16, 6, 188, 10, 181, 0, 119, 42, 16, 64, 188, 10, 181, 0, 122, 42, 16, 8, 188, 10, 181, 0, 125, 42, 16, 8, 188, 10, 181, 0, 128, 42, 2, 181, 0, 131, 42, 16, 8, 188, 10, 181, 0, 134, 3, 60, 27, 16, 75, 162, 0, 21, 42, 180, 0, 68, 27, 42, 180, 0, 107, 27, 46, 79, 132, 1, 1, 167, 255, 235, 42, 16, 75, 181, 0, 137, 42, 182, 0, 140, 87, 3, 60, 27, 16, 36, 162, 0, 27]
theorem hR_init_b14 : BL (mcc mR_init) 1344 bR_init_b14 := by decide +kernel
theorem dR_init_1344 : decode (mcc mR_init) 1344 = .ok (.putfield 113, 3) := o181 (a := 0) (b := 113) (byt_of hR_init_b14 (j := 0) rfl) (byt_of hR_init_b14 (j := 1) rfl) (byt_of hR_init_b14 (j := 2) rfl) rfl
theorem dR_init_1347 : decode (mcc mR_init) 1347 = .ok (.aload_n 0, 1) := o42 (byt_of hR_init_b14 (j := 3) rfl)
theorem dR_init_1348 : decode (mcc mR_init) 1348 = .ok (.sipush 200, 3) := o17 (a := 0) (b := 200) (byt_of hR_init_b14 (j := 4) rfl) (byt_of hR_init_b14 (j := 5) rfl) (byt_of hR_init_b14 (j := 6) rfl) rfl
theorem dR_init_1351 : decode (mcc mR_init) 1351 = .ok (.newarray .int, 2) := o188 (byt_of hR_init_b14 (j := 7) rfl) (byt_of hR_init_b14 (j := 8) rfl)
theorem dR_init_1353 : decode (mcc mR_init) 1353 = .ok (.putfield 116, 3) := o181 (a := 0) (b := 116) (byt_of hR_init_b14 (j := 9) rfl) (byt_of hR_init_b14 (j := 10) rfl) (byt_of hR_init_b14 (j := 11) rfl) rfl
theorem dR_init_1356 : decode (mcc mR_init) 1356 = .ok (.aload_n 0, 1) := o42 (byt_of hR_init_b14 (j := 12) rfl)
theorem dR_init_1357 : decode (mcc mR_init) 1357 = .ok (.bipush 6, 2) := o16 (a := 6) (byt_of hR_init_b14 (j := 13) rfl) (byt_of hR_init_b14 (j := 14) rfl) rfl
theorem dR_init_1359 : decode (mcc mR_init) 1359 = .ok (.newarray .int, 2) := o188 (byt_of hR_init_b14 (j := 15) rfl) (byt_of hR_init_b14 (j := 16) rfl)
theorem dR_init_1361 : decode (mcc mR_init) 1361 = .ok (.putfield 119, 3) := o181 (a := 0) (b := 119) (byt_of hR_init_b14 (j := 17) rfl) (byt_of hR_init_b14 (j := 18) rfl) (byt_of hR_init_b14 (j := 19) rfl) rfl
theorem dR_init_1364 : decode (mcc mR_init) 1364 = .ok (.aload_n 0, 1) := o42 (byt_of hR_init_b14 (j := 20) rfl)
theorem dR_init_1365 : decode (mcc mR_init) 1365 = .ok (.bipush 64, 2) := o16 (a := 64) (byt_of hR_init_b14 (j := 21) rfl) (byt_of hR_init_b14 (j := 22) rfl) rfl
theorem dR_init_1367 : decode (mcc mR_init) 1367 = .ok (.newarray .int, 2) := o188 (byt_of hR_init_b14 (j := 23) rfl) (byt_of hR_init_b14 (j := 24) rfl)
theorem dR_init_1369 : decode (mcc mR_init) 1369 = .ok (.putfield 122, 3) := o181 (a := 0) (b := 122) (byt_of hR_init_b14 (j := 25) rfl) (byt_of hR_init_b14 (j := 26) rfl) (byt_of hR_init_b14 (j := 27) rfl) rfl
theorem dR_init_1372 : decode (mcc mR_init) 1372 = .ok (.aload_n 0, 1) := o42 (byt_of hR_init_b14 (j := 28) rfl)
theorem dR_init_1373 : decode (mcc mR_init) 1373 = .ok (.bipush 8, 2) := o16 (a := 8) (byt_of hR_init_b14 (j := 29) rfl) (byt_of hR_init_b14 (j := 30) rfl) rfl
theorem dR_init_1375 : decode (mcc mR_init) 1375 = .ok (.newarray .int, 2) := o188 (byt_of hR_init_b14 (j := 31) rfl) (byt_of hR_init_b14 (j := 32) rfl)
theorem dR_init_1377 : decode (mcc mR_init) 1377 = .ok (.putfield 125, 3) := o181 (a := 0) (b := 125) (byt_of hR_init_b14 (j := 33) rfl) (byt_of hR_init_b14 (j := 34) rfl) (byt_of hR_init_b14 (j := 35) rfl) rfl
theorem dR_init_1380 : decode (mcc mR_init) 1380 = .ok (.aload_n 0, 1) := o42 (byt_of hR_init_b14 (j := 36) rfl)
theorem dR_init_1381 : decode (mcc mR_init) 1381 = .ok (.bipush 8, 2) := o16 (a := 8) (byt_of hR_init_b14 (j := 37) rfl) (byt_of hR_init_b14 (j := 38) rfl) rfl
theorem dR_init_1383 : decode (mcc mR_init) 1383 = .ok (.newarray .int, 2) := o188 (byt_of hR_init_b14 (j := 39) rfl) (byt_of hR_init_b14 (j := 40) rfl)
theorem dR_init_1385 : decode (mcc mR_init) 1385 = .ok (.putfield 128, 3) := o181 (a := 0) (b := 128) (byt_of hR_init_b14 (j := 41) rfl) (byt_of hR_init_b14 (j := 42) rfl) (byt_of hR_init_b14 (j := 43) rfl) rfl
theorem dR_init_1388 : decode (mcc mR_init) 1388 = .ok (.aload_n 0, 1) := o42 (byt_of hR_init_b14 (j := 44) rfl)
theorem dR_init_1389 : decode (mcc mR_init) 1389 = .ok (.iconst (-1), 1) := o2 (byt_of hR_init_b14 (j := 45) rfl)
theorem dR_init_1390 : decode (mcc mR_init) 1390 = .ok (.putfield 131, 3) := o181 (a := 0) (b := 131) (byt_of hR_init_b14 (j := 46) rfl) (byt_of hR_init_b14 (j := 47) rfl) (byt_of hR_init_b14 (j := 48) rfl) rfl
theorem dR_init_1393 : decode (mcc mR_init) 1393 = .ok (.aload_n 0, 1) := o42 (byt_of hR_init_b14 (j := 49) rfl)
theorem dR_init_1394 : decode (mcc mR_init) 1394 = .ok (.bipush 8, 2) := o16 (a := 8) (byt_of hR_init_b14 (j := 50) rfl) (byt_of hR_init_b14 (j := 51) rfl) rfl
theorem dR_init_1396 : decode (mcc mR_init) 1396 = .ok (.newarray .int, 2) := o188 (byt_of hR_init_b14 (j := 52) rfl) (byt_of hR_init_b14 (j := 53) rfl)
theorem dR_init_1398 : decode (mcc mR_init) 1398 = .ok (.putfield 134, 3) := o181 (a := 0) (b := 134) (byt_of hR_init_b14 (j := 54) rfl) (byt_of hR_init_b14 (j := 55) rfl) (byt_of hR_init_b14 (j := 56) rfl) rfl
theorem dR_init_1401 : decode (mcc mR_init) 1401 = .ok (.iconst 0, 1) := o3 (byt_of hR_init_b14 (j := 57) rfl)
theorem dR_init_1402 : decode (mcc mR_init) 1402 = .ok (.istore_n 1, 1) := o60 (byt_of hR_init_b14 (j := 58) rfl)
theorem dR_init_1403 : decode (mcc mR_init) 1403 = .ok (.iload_n 1, 1) := o27 (byt_of hR_init_b14 (j := 59) rfl)
theorem dR_init_1404 : decode (mcc mR_init) 1404 = .ok (.bipush 75, 2) := o16 (a := 75) (byt_of hR_init_b14 (j := 60) rfl) (byt_of hR_init_b14 (j := 61) rfl) rfl
theorem dR_init_1406 : decode (mcc mR_init) 1406 = .ok (.if_icmp .ge 21, 3) := o162 (a := 0) (b := 21) (byt_of hR_init_b14 (j := 62) rfl) (byt_of hR_init_b14 (j := 63) rfl) (byt_of hR_init_b14 (j := 64) rfl) rfl
theorem dR_init_1409 : decode (mcc mR_init) 1409 = .ok (.aload_n 0, 1) := o42 (byt_of hR_init_b14 (j := 65) rfl)
theorem dR_init_1410 : decode (mcc mR_init) 1410 = .ok (.getfield 68, 3) := o180 (a := 0) (b := 68) (byt_of hR_init_b14 (j := 66) rfl) (byt_of hR_init_b14 (j := 67) rfl) (byt_of hR_init_b14 (j := 68) rfl) rfl
theorem dR_init_1413 : decode (mcc mR_init) 1413 = .ok (.iload_n 1, 1) := o27 (byt_of hR_init_b14 (j := 69) rfl)
theorem dR_init_1414 : decode (mcc mR_init) 1414 = .ok (.aload_n 0, 1) := o42 (byt_of hR_init_b14 (j := 70) rfl)
theorem dR_init_1415 : decode (mcc mR_init) 1415 = .ok (.getfield 107, 3) := o180 (a := 0) (b := 107) (byt_of hR_init_b14 (j := 71) rfl) (byt_of hR_init_b14 (j := 72) rfl) (byt_of hR_init_b14 (j := 73) rfl) rfl
theorem dR_init_1418 : decode (mcc mR_init) 1418 = .ok (.iload_n 1, 1) := o27 (byt_of hR_init_b14 (j := 74) rfl)
theorem dR_init_1419 : decode (mcc mR_init) 1419 = .ok (.iaload, 1) := o46 (byt_of hR_init_b14 (j := 75) rfl)
theorem dR_init_1420 : decode (mcc mR_init) 1420 = .ok (.iastore, 1) := o79 (byt_of hR_init_b14 (j := 76) rfl)
theorem dR_init_1421 : decode (mcc mR_init) 1421 = .ok (.iinc 1 1, 3) := o132 (a := 1) (b := 1) (byt_of hR_init_b14 (j := 77) rfl) (byt_of hR_init_b14 (j := 78) rfl) (byt_of hR_init_b14 (j := 79) rfl) rfl
theorem dR_init_1424 : decode (mcc mR_init) 1424 = .ok (.goto (-21), 3) := o167 (a := 255) (b := 235) (byt_of hR_init_b14 (j := 80) rfl) (byt_of hR_init_b14 (j := 81) rfl) (byt_of hR_init_b14 (j := 82) rfl) rfl
theorem dR_init_1427 : decode (mcc mR_init) 1427 = .ok (.aload_n 0, 1) := o42 (byt_of hR_init_b14 (j := 83) rfl)
theorem dR_init_1428 : decode (mcc mR_init) 1428 = .ok (.bipush 75, 2) := o16 (a := 75) (byt_of hR_init_b14 (j := 84) rfl) (byt_of hR_init_b14 (j := 85) rfl) rfl
theorem dR_init_1430 : decode (mcc mR_init) 1430 = .ok (.putfield 137, 3) := o181 (a := 0) (b := 137) (byt_of hR_init_b14 (j := 86) rfl) (byt_of hR_init_b14 (j := 87) rfl) (byt_of hR_init_b14 (j := 88) rfl) rfl
theorem dR_init_1433 : decode (mcc mR_init) 1433 = .ok (.aload_n 0, 1) := o42 (byt_of hR_init_b14 (j := 89) rfl)
theorem dR_init_1434 : decode (mcc mR_init) 1434 = .ok (.invokevirtual 140, 3) := o182 (a := 0) (b := 140) (byt_of hR_init_b14 (j := 90) rfl) (byt_of hR_init_b14 (j := 91) rfl) (byt_of hR_init_b14 (j := 92) rfl) rfl
theorem dR_init_1437 : decode (mcc mR_init) 1437 = .ok (.pop, 1) := o87 (byt_of hR_init_b14 (j := 93) rfl)
theorem dR_init_1438 : decode (mcc mR_init) 1438 = .ok (.iconst 0, 1) := o3 (byt_of hR_init_b14 (j := 94) rfl)
theorem dR_init_1439 : decode (mcc mR_init) 1439 = .ok (.istore_n 1, 1) := o60 (byt_of hR_init_b14 (j := 95) rfl)
def bR_init_b15 : List Nat := [27, 16, 36, 162, 0, 27, 42, 180, 0, 7, 27, 27, 16, 6, 108, 27, 16, 6, 112, 100, 184, 0, 144, 79, 132, 1, 1, 167, 255, 229, 177]
theorem hR_init_b15 : BL (mcc mR_init) 1440 bR_init_b15 := by decide +kernel
theorem dR_init_1440 : decode (mcc mR_init) 1440 = .ok (.iload_n 1, 1) := o27 (byt_of hR_init_b15 (j := 0) rfl)
theorem dR_init_1441 : decode (mcc mR_init) 1441 = .ok (.bipush 36, 2) := o16 (a := 36) (byt_of hR_init_b15 (j := 1) rfl) (byt_of hR_init_b15 (j := 2) rfl) rfl
theorem dR_init_1443 : decode (mcc mR_init) 1443 = .ok (.if_icmp .ge 27, 3) := o162 (a := 0) (b := 27) (byt_of hR_init_b15 (j := 3) rfl) (byt_of hR_init_b15 (j := 4) rfl) (byt_of hR_init_b15 (j := 5) rfl) rfl
theorem dR_init_1446 : decode (mcc mR_init) 1446 = .ok (.aload_n 0, 1) := o42 (byt_of hR_init_b15 (j := 6) rfl)
theorem dR_init_1447 : decode (mcc mR_init) 1447 = .ok (.getfield 7, 3) := o180 (a := 0) (b := 7) (byt_of hR_init_b15 (j := 7) rfl) (byt_of hR_init_b15 (j := 8) rfl) (byt_of hR_init_b15 (j := 9) rfl) rfl
theorem dR_init_1450 : decode (mcc mR_init) 1450 = .ok (.iload_n 1, 1) := o27 (byt_of hR_init_b15 (j := 10) rfl)
theorem dR_init_1451 : decode (mcc mR_init) 1451 = .ok (.iload_n 1, 1) := o27 (byt_of hR_init_b15 (j := 11) rfl)
theorem dR_init_1452 : decode (mcc mR_init) 1452 = .ok (.bipush 6, 2) := o16 (a := 6) (byt_of hR_init_b15 (j := 12) rfl) (byt_of hR_init_b15 (j := 13) rfl) rfl
theorem dR_init_1454 : decode (mcc mR_init) 1454 = .ok (.idiv, 1) := o108 (byt_of hR_init_b15 (j := 14) rfl)
theorem dR_init_1455 : decode (mcc mR_init) 1455 = .ok (.iload_n 1, 1) := o27 (byt_of hR_init_b15 (j := 15) rfl)
theorem dR_init_1456 : decode (mcc mR_init) 1456 = .ok (.bipush 6, 2) := o16 (a := 6) (byt_of hR_init_b15 (j := 16) rfl) (byt_of hR_init_b15 (j := 17) rfl) rfl
theorem dR_init_1458 : decode (mcc mR_init) 1458 = .ok (.irem, 1) := o112 (byt_of hR_init_b15 (j := 18) rfl)
theorem dR_init_1459 : decode (mcc mR_init) 1459 = .ok (.isub, 1) := o100 (byt_of hR_init_b15 (j := 19) rfl)
theorem dR_init_1460 : decode (mcc mR_init) 1460 = .ok (.invokestatic 144, 3) := o184 (a := 0) (b := 144) (byt_of hR_init_b15 (j := 20) rfl) (byt_of hR_init_b15 (j := 21) rfl) (byt_of hR_init_b15 (j := 22) rfl) rfl
theorem dR_init_1463 : decode (mcc mR_init) 1463 = .ok (.iastore, 1) := o79 (byt_of hR_init_b15 (j := 23) rfl)
theorem dR_init_1464 : decode (mcc mR_init) 1464 = .ok (.iinc 1 1, 3) := o132 (a := 1) (b := 1) (byt_of hR_init_b15 (j := 24) rfl) (byt_of hR_init_b15 (j := 25) rfl) (byt_of hR_init_b15 (j := 26) rfl) rfl
theorem dR_init_1467 : decode (mcc mR_init) 1467 = .ok (.goto (-27), 3) := o167 (a := 255) (b := 229) (byt_of hR_init_b15 (j := 27) rfl) (byt_of hR_init_b15 (j := 28) rfl) (byt_of hR_init_b15 (j := 29) rfl) rfl
theorem dR_init_1470 : decode (mcc mR_init) 1470 = .ok (.return_, 1) := o177 (byt_of hR_init_b15 (j := 30) rfl)
def bR_in_b0 : List Nat := [26, 27, 161, 0, 12, 26, 28, 163, 0, 7, 4, 167, 0, 4, 3, 172]
theorem hR_in_b0 : BL (mcc mR_in) 0 bR_in_b0 := by decide +kernel
theorem dR_in_0 : decode (mcc mR_in) 0 = .ok (.iload_n 0, 1) := o26 (byt_of hR_in_b0 (j := 0) rfl)
theorem dR_in_1 : decode (mcc mR_in) 1 = .ok (.iload_n 1, 1) := o27 (byt_of hR_in_b0 (j := 1) rfl)
theorem dR_in_2 : decode (mcc mR_in) 2 = .ok (.if_icmp .lt 12, 3) := o161 (a := 0) (b := 12) (byt_of hR_in_b0 (j := 2) rfl) (byt_of hR_in_b0 (j := 3) rfl) (byt_of hR_in_b0 (j := 4) rfl) rfl
theorem dR_in_5 : decode (mcc mR_in) 5 = .ok (.iload_n 0, 1) := o26 (byt_of hR_in_b0 (j := 5) rfl)
theorem dR_in_6 : decode (mcc mR_in) 6 = .ok (.iload_n 2, 1) := o28 (byt_of hR_in_b0 (j := 6) rfl)
theorem dR_in_7 : decode (mcc mR_in) 7 = .ok (.if_icmp .gt 7, 3) := o163 (a := 0) (b := 7) (byt_of hR_in_b0 (j := 7) rfl) (byt_of hR_in_b0 (j := 8) rfl) (byt_of hR_in_b0 (j := 9) rfl) rfl
theorem dR_in_10 : decode (mcc mR_in) 10 = .ok (.iconst 1, 1) := o4 (byt_of hR_in_b0 (j := 10) rfl)
theorem dR_in_11 : decode (mcc mR_in) 11 = .ok (.goto 4, 3) := o167 (a := 0) (b := 4) (byt_of hR_in_b0 (j := 11) rfl) (byt_of hR_in_b0 (j := 12) rfl) (byt_of hR_in_b0 (j := 13) rfl) rfl
theorem dR_in_14 : decode (mcc mR_in) 14 = .ok (.iconst 0, 1) := o3 (byt_of hR_in_b0 (j := 14) rfl)
theorem dR_in_15 : decode (mcc mR_in) 15 = .ok (.ireturn, 1) := o172 (byt_of hR_in_b0 (j := 15) rfl)
def bR_size_b0 : List Nat := [26, 156, 0, 8, 26, 116, 167, 0, 4, 26, 172]
theorem hR_size_b0 : BL (mcc mR_size) 0 bR_size_b0 := by decide +kernel
theorem dR_size_0 : decode (mcc mR_size) 0 = .ok (.iload_n 0, 1) := o26 (byt_of hR_size_b0 (j := 0) rfl)
theorem dR_size_1 : decode (mcc mR_size) 1 = .ok (.ifCond .ge 8, 3) := o156 (a := 0) (b := 8) (byt_of hR_size_b0 (j := 1) rfl) (byt_of hR_size_b0 (j := 2) rfl) (byt_of hR_size_b0 (j := 3) rfl) rfl
theorem dR_size_4 : decode (mcc mR_size) 4 = .ok (.iload_n 0, 1) := o26 (byt_of hR_size_b0 (j := 4) rfl)
theorem dR_size_5 : decode (mcc mR_size) 5 = .ok (.ineg, 1) := o116 (byt_of hR_size_b0 (j := 5) rfl)
theorem dR_size_6 : decode (mcc mR_size) 6 = .ok (.goto 4, 3) := o167 (a := 0) (b := 4) (byt_of hR_size_b0 (j := 6) rfl) (byt_of hR_size_b0 (j := 7) rfl) (byt_of hR_size_b0 (j := 8) rfl) rfl
theorem dR_size_9 : decode (mcc mR_size) 9 = .ok (.iload_n 0, 1) := o26 (byt_of hR_size_b0 (j := 9) rfl)
theorem dR_size_10 : decode (mcc mR_size) 10 = .ok (.ireturn, 1) := o172 (byt_of hR_size_b0 (j := 10) rfl)
def bR_within_b0 : List Nat := [26, 27, 162, 0, 7, 27, 167, 0, 13, 26, 28, 164, 0, 7, 28, 167, 0, 4, 26, 172]
theorem hR_within_b0 : BL (mcc mR_within) 0 bR_within_b0 := by decide +kernel
theorem dR_within_0 : decode (mcc mR_within) 0 = .ok (.iload_n 0, 1) := o26 (byt_of hR_within_b0 (j := 0) rfl)
theorem dR_within_1 : decode (mcc mR_within) 1 = .ok (.iload_n 1, 1) := o27 (byt_of hR_within_b0 (j := 1) rfl)
theorem dR_within_2 : decode (mcc mR_within) 2 = .ok (.if_icmp .ge 7, 3) := o162 (a := 0) (b := 7) (byt_of hR_within_b0 (j := 2) rfl) (byt_of hR_within_b0 (j := 3) rfl) (byt_of hR_within_b0 (j := 4) rfl) rfl
theorem dR_within_5 : decode (mcc mR_within) 5 = .ok (.iload_n 1, 1) := o27 (byt_of hR_within_b0 (j := 5) rfl)
theorem dR_within_6 : decode (mcc mR_within) 6 = .ok (.goto 13, 3) := o167 (a := 0) (b := 13) (byt_of hR_within_b0 (j := 6) rfl) (byt_of hR_within_b0 (j := 7) rfl) (byt_of hR_within_b0 (j := 8) rfl) rfl
theorem dR_within_9 : decode (mcc mR_within) 9 = .ok (.iload_n 0, 1) := o26 (byt_of hR_within_b0 (j := 9) rfl)
theorem dR_within_10 : decode (mcc mR_within) 10 = .ok (.iload_n 2, 1) := o28 (byt_of hR_within_b0 (j := 10) rfl)
theorem dR_within_11 : decode (mcc mR_within) 11 = .ok (.if_icmp .le 7, 3) := o164 (a := 0) (b := 7) (byt_of hR_within_b0 (j := 11) rfl) (byt_of hR_within_b0 (j := 12) rfl) (byt_of hR_within_b0 (j := 13) rfl) rfl
theorem dR_within_14 : decode (mcc mR_within) 14 = .ok (.iload_n 2, 1) := o28 (byt_of hR_within_b0 (j := 14) rfl)
theorem dR_within_15 : decode (mcc mR_within) 15 = .ok (.goto 4, 3) := o167 (a := 0) (b := 4) (byt_of hR_within_b0 (j := 15) rfl) (byt_of hR_within_b0 (j := 16) rfl) (byt_of hR_within_b0 (j := 17) rfl) rfl
theorem dR_within_18 : decode (mcc mR_within) 18 = .ok (.iload_n 0, 1) := o26 (byt_of hR_within_b0 (j := 18) rfl)
theorem dR_within_19 : decode (mcc mR_within) 19 = .ok (.ireturn, 1) := o172 (byt_of hR_within_b0 (j := 19) rfl)
def bR_isOne_b0 : List Nat := [27, 3, 42, 180, 0, 148, 4, 100, 184, 0, 151, 172]
theorem hR_isOne_b0 : BL (mcc mR_isOne) 0 bR_isOne_b0 := by decide +kernel
theorem dR_isOne_0 : decode (mcc mR_isOne) 0 = .ok (.iload_n 1, 1) := o27 (byt_of hR_isOne_b0 (j := 0) rfl)
theorem dR_isOne_1 : decode (mcc mR_isOne) 1 = .ok (.iconst 0, 1) := o3 (byt_of hR_isOne_b0 (j := 1) rfl)
theorem dR_isOne_2 : decode (mcc mR_isOne) 2 = .ok (.aload_n 0, 1) := o42 (byt_of hR_isOne_b0 (j := 2) rfl)
theorem dR_isOne_3 : decode (mcc mR_isOne) 3 = .ok (.getfield 148, 3) := o180 (a := 0) (b := 148) (byt_of hR_isOne_b0 (j := 3) rfl) (byt_of hR_isOne_b0 (j := 4) rfl) (byt_of hR_isOne_b0 (j := 5) rfl) rfl
theorem dR_isOne_6 : decode (mcc mR_isOne) 6 = .ok (.iconst 1, 1) := o4 (byt_of hR_isOne_b0 (j := 6) rfl)
theorem dR_isOne_7 : decode (mcc mR_isOne) 7 = .ok (.isub, 1) := o100 (byt_of hR_isOne_b0 (j := 7) rfl)
theorem dR_isOne_8 : decode (mcc mR_isOne) 8 = .ok (.invokestatic 151, 3) := o184 (a := 0) (b := 151) (byt_of hR_isOne_b0 (j := 8) rfl) (byt_of hR_isOne_b0 (j := 9) rfl) (byt_of hR_isOne_b0 (j := 10) rfl) rfl
theorem dR_isOne_11 : decode (mcc mR_isOne) 11 = .ok (.ireturn, 1) := o172 (byt_of hR_isOne_b0 (j := 11) rfl)
def bR_isPromise_b0 : List Nat := [27, 3, 42, 180, 0, 155, 4, 100, 184, 0, 151, 172]
theorem hR_isPromise_b0 : BL (mcc mR_isPromise) 0 bR_isPromise_b0 := by decide +kernel
theorem dR_isPromise_0 : decode (mcc mR_isPromise) 0 = .ok (.iload_n 1, 1) := o27 (byt_of hR_isPromise_b0 (j := 0) rfl)
theorem dR_isPromise_1 : decode (mcc mR_isPromise) 1 = .ok (.iconst 0, 1) := o3 (byt_of hR_isPromise_b0 (j := 1) rfl)
theorem dR_isPromise_2 : decode (mcc mR_isPromise) 2 = .ok (.aload_n 0, 1) := o42 (byt_of hR_isPromise_b0 (j := 2) rfl)
theorem dR_isPromise_3 : decode (mcc mR_isPromise) 3 = .ok (.getfield 155, 3) := o180 (a := 0) (b := 155) (byt_of hR_isPromise_b0 (j := 3) rfl) (byt_of hR_isPromise_b0 (j := 4) rfl) (byt_of hR_isPromise_b0 (j := 5) rfl) rfl
theorem dR_isPromise_6 : decode (mcc mR_isPromise) 6 = .ok (.iconst 1, 1) := o4 (byt_of hR_isPromise_b0 (j := 6) rfl)
theorem dR_isPromise_7 : decode (mcc mR_isPromise) 7 = .ok (.isub, 1) := o100 (byt_of hR_isPromise_b0 (j := 7) rfl)
theorem dR_isPromise_8 : decode (mcc mR_isPromise) 8 = .ok (.invokestatic 151, 3) := o184 (a := 0) (b := 151) (byt_of hR_isPromise_b0 (j := 8) rfl) (byt_of hR_isPromise_b0 (j := 9) rfl) (byt_of hR_isPromise_b0 (j := 10) rfl) rfl
theorem dR_isPromise_11 : decode (mcc mR_isPromise) 11 = .ok (.ireturn, 1) := o172 (byt_of hR_isPromise_b0 (j := 11) rfl)
def bR_isSaying_b0 : List Nat := [27, 3, 42, 180, 0, 158, 4, 100, 184, 0, 151, 172]
theorem hR_isSaying_b0 : BL (mcc mR_isSaying) 0 bR_isSaying_b0 := by decide +kernel
theorem dR_isSaying_0 : decode (mcc mR_isSaying) 0 = .ok (.iload_n 1, 1) := o27 (byt_of hR_isSaying_b0 (j := 0) rfl)
theorem dR_isSaying_1 : decode (mcc mR_isSaying) 1 = .ok (.iconst 0, 1) := o3 (byt_of hR_isSaying_b0 (j := 1) rfl)
theorem dR_isSaying_2 : decode (mcc mR_isSaying) 2 = .ok (.aload_n 0, 1) := o42 (byt_of hR_isSaying_b0 (j := 2) rfl)
theorem dR_isSaying_3 : decode (mcc mR_isSaying) 3 = .ok (.getfield 158, 3) := o180 (a := 0) (b := 158) (byt_of hR_isSaying_b0 (j := 3) rfl) (byt_of hR_isSaying_b0 (j := 4) rfl) (byt_of hR_isSaying_b0 (j := 5) rfl) rfl
theorem dR_isSaying_6 : decode (mcc mR_isSaying) 6 = .ok (.iconst 1, 1) := o4 (byt_of hR_isSaying_b0 (j := 6) rfl)
theorem dR_isSaying_7 : decode (mcc mR_isSaying) 7 = .ok (.isub, 1) := o100 (byt_of hR_isSaying_b0 (j := 7) rfl)
theorem dR_isSaying_8 : decode (mcc mR_isSaying) 8 = .ok (.invokestatic 151, 3) := o184 (a := 0) (b := 151) (byt_of hR_isSaying_b0 (j := 8) rfl) (byt_of hR_isSaying_b0 (j := 9) rfl) (byt_of hR_isSaying_b0 (j := 10) rfl) rfl
theorem dR_isSaying_11 : decode (mcc mR_isSaying) 11 = .ok (.ireturn, 1) := o172 (byt_of hR_isSaying_b0 (j := 11) rfl)
def bR_far_b0 : List Nat := [27, 3, 8, 184, 0, 151, 153, 0, 17, 28, 3, 8, 184, 0, 151, 153, 0, 8, 27, 28, 160, 0, 5, 2, 172, 29, 3, 16, 9, 184, 0, 151, 154, 0, 6, 16, 254, 172, 42, 180, 0, 7, 16, 6, 27, 104, 28, 96, 46, 54, 4, 42, 180, 0, 7, 16, 6, 27, 104, 28, 96, 29, 79, 42, 180, 0, 7, 16, 6, 28, 104, 27, 96, 29, 79, 21, 4, 172]
theorem hR_far_b0 : BL (mcc mR_far) 0 bR_far_b0 := by decide +kernel
theorem dR_far_0 : decode (mcc mR_far) 0 = .ok (.iload_n 1, 1) := o27 (byt_of hR_far_b0 (j := 0) rfl)
theorem dR_far_1 : decode (mcc mR_far) 1 = .ok (.iconst 0, 1) := o3 (byt_of hR_far_b0 (j := 1) rfl)
theorem dR_far_2 : decode (mcc mR_far) 2 = .ok (.iconst 5, 1) := o8 (byt_of hR_far_b0 (j := 2) rfl)
theorem dR_far_3 : decode (mcc mR_far) 3 = .ok (.invokestatic 151, 3) := o184 (a := 0) (b := 151) (byt_of hR_far_b0 (j := 3) rfl) (byt_of hR_far_b0 (j := 4) rfl) (byt_of hR_far_b0 (j := 5) rfl) rfl
theorem dR_far_6 : decode (mcc mR_far) 6 = .ok (.ifCond .eq 17, 3) := o153 (a := 0) (b := 17) (byt_of hR_far_b0 (j := 6) rfl) (byt_of hR_far_b0 (j := 7) rfl) (byt_of hR_far_b0 (j := 8) rfl) rfl
theorem dR_far_9 : decode (mcc mR_far) 9 = .ok (.iload_n 2, 1) := o28 (byt_of hR_far_b0 (j := 9) rfl)
theorem dR_far_10 : decode (mcc mR_far) 10 = .ok (.iconst 0, 1) := o3 (byt_of hR_far_b0 (j := 10) rfl)
theorem dR_far_11 : decode (mcc mR_far) 11 = .ok (.iconst 5, 1) := o8 (byt_of hR_far_b0 (j := 11) rfl)
theorem dR_far_12 : decode (mcc mR_far) 12 = .ok (.invokestatic 151, 3) := o184 (a := 0) (b := 151) (byt_of hR_far_b0 (j := 12) rfl) (byt_of hR_far_b0 (j := 13) rfl) (byt_of hR_far_b0 (j := 14) rfl) rfl
theorem dR_far_15 : decode (mcc mR_far) 15 = .ok (.ifCond .eq 8, 3) := o153 (a := 0) (b := 8) (byt_of hR_far_b0 (j := 15) rfl) (byt_of hR_far_b0 (j := 16) rfl) (byt_of hR_far_b0 (j := 17) rfl) rfl
theorem dR_far_18 : decode (mcc mR_far) 18 = .ok (.iload_n 1, 1) := o27 (byt_of hR_far_b0 (j := 18) rfl)
theorem dR_far_19 : decode (mcc mR_far) 19 = .ok (.iload_n 2, 1) := o28 (byt_of hR_far_b0 (j := 19) rfl)
theorem dR_far_20 : decode (mcc mR_far) 20 = .ok (.if_icmp .ne 5, 3) := o160 (a := 0) (b := 5) (byt_of hR_far_b0 (j := 20) rfl) (byt_of hR_far_b0 (j := 21) rfl) (byt_of hR_far_b0 (j := 22) rfl) rfl
theorem dR_far_23 : decode (mcc mR_far) 23 = .ok (.iconst (-1), 1) := o2 (byt_of hR_far_b0 (j := 23) rfl)
theorem dR_far_24 : decode (mcc mR_far) 24 = .ok (.ireturn, 1) := o172 (byt_of hR_far_b0 (j := 24) rfl)
theorem dR_far_25 : decode (mcc mR_far) 25 = .ok (.iload_n 3, 1) := o29 (byt_of hR_far_b0 (j := 25) rfl)
theorem dR_far_26 : decode (mcc mR_far) 26 = .ok (.iconst 0, 1) := o3 (byt_of hR_far_b0 (j := 26) rfl)
theorem dR_far_27 : decode (mcc mR_far) 27 = .ok (.bipush 9, 2) := o16 (a := 9) (byt_of hR_far_b0 (j := 27) rfl) (byt_of hR_far_b0 (j := 28) rfl) rfl
theorem dR_far_29 : decode (mcc mR_far) 29 = .ok (.invokestatic 151, 3) := o184 (a := 0) (b := 151) (byt_of hR_far_b0 (j := 29) rfl) (byt_of hR_far_b0 (j := 30) rfl) (byt_of hR_far_b0 (j := 31) rfl) rfl
theorem dR_far_32 : decode (mcc mR_far) 32 = .ok (.ifCond .ne 6, 3) := o154 (a := 0) (b := 6) (byt_of hR_far_b0 (j := 32) rfl) (byt_of hR_far_b0 (j := 33) rfl) (byt_of hR_far_b0 (j := 34) rfl) rfl
theorem dR_far_35 : decode (mcc mR_far) 35 = .ok (.bipush (-2), 2) := o16 (a := 254) (byt_of hR_far_b0 (j := 35) rfl) (byt_of hR_far_b0 (j := 36) rfl) rfl
theorem dR_far_37 : decode (mcc mR_far) 37 = .ok (.ireturn, 1) := o172 (byt_of hR_far_b0 (j := 37) rfl)
theorem dR_far_38 : decode (mcc mR_far) 38 = .ok (.aload_n 0, 1) := o42 (byt_of hR_far_b0 (j := 38) rfl)
theorem dR_far_39 : decode (mcc mR_far) 39 = .ok (.getfield 7, 3) := o180 (a := 0) (b := 7) (byt_of hR_far_b0 (j := 39) rfl) (byt_of hR_far_b0 (j := 40) rfl) (byt_of hR_far_b0 (j := 41) rfl) rfl
theorem dR_far_42 : decode (mcc mR_far) 42 = .ok (.bipush 6, 2) := o16 (a := 6) (byt_of hR_far_b0 (j := 42) rfl) (byt_of hR_far_b0 (j := 43) rfl) rfl
theorem dR_far_44 : decode (mcc mR_far) 44 = .ok (.iload_n 1, 1) := o27 (byt_of hR_far_b0 (j := 44) rfl)
theorem dR_far_45 : decode (mcc mR_far) 45 = .ok (.imul, 1) := o104 (byt_of hR_far_b0 (j := 45) rfl)
theorem dR_far_46 : decode (mcc mR_far) 46 = .ok (.iload_n 2, 1) := o28 (byt_of hR_far_b0 (j := 46) rfl)
theorem dR_far_47 : decode (mcc mR_far) 47 = .ok (.iadd, 1) := o96 (byt_of hR_far_b0 (j := 47) rfl)
theorem dR_far_48 : decode (mcc mR_far) 48 = .ok (.iaload, 1) := o46 (byt_of hR_far_b0 (j := 48) rfl)
theorem dR_far_49 : decode (mcc mR_far) 49 = .ok (.istore 4, 2) := o54 (a := 4) (byt_of hR_far_b0 (j := 49) rfl) (byt_of hR_far_b0 (j := 50) rfl)
theorem dR_far_51 : decode (mcc mR_far) 51 = .ok (.aload_n 0, 1) := o42 (byt_of hR_far_b0 (j := 51) rfl)
theorem dR_far_52 : decode (mcc mR_far) 52 = .ok (.getfield 7, 3) := o180 (a := 0) (b := 7) (byt_of hR_far_b0 (j := 52) rfl) (byt_of hR_far_b0 (j := 53) rfl) (byt_of hR_far_b0 (j := 54) rfl) rfl
theorem dR_far_55 : decode (mcc mR_far) 55 = .ok (.bipush 6, 2) := o16 (a := 6) (byt_of hR_far_b0 (j := 55) rfl) (byt_of hR_far_b0 (j := 56) rfl) rfl
theorem dR_far_57 : decode (mcc mR_far) 57 = .ok (.iload_n 1, 1) := o27 (byt_of hR_far_b0 (j := 57) rfl)
theorem dR_far_58 : decode (mcc mR_far) 58 = .ok (.imul, 1) := o104 (byt_of hR_far_b0 (j := 58) rfl)
theorem dR_far_59 : decode (mcc mR_far) 59 = .ok (.iload_n 2, 1) := o28 (byt_of hR_far_b0 (j := 59) rfl)
theorem dR_far_60 : decode (mcc mR_far) 60 = .ok (.iadd, 1) := o96 (byt_of hR_far_b0 (j := 60) rfl)
theorem dR_far_61 : decode (mcc mR_far) 61 = .ok (.iload_n 3, 1) := o29 (byt_of hR_far_b0 (j := 61) rfl)
theorem dR_far_62 : decode (mcc mR_far) 62 = .ok (.iastore, 1) := o79 (byt_of hR_far_b0 (j := 62) rfl)
theorem dR_far_63 : decode (mcc mR_far) 63 = .ok (.aload_n 0, 1) := o42 (byt_of hR_far_b0 (j := 63) rfl)
theorem dR_far_64 : decode (mcc mR_far) 64 = .ok (.getfield 7, 3) := o180 (a := 0) (b := 7) (byt_of hR_far_b0 (j := 64) rfl) (byt_of hR_far_b0 (j := 65) rfl) (byt_of hR_far_b0 (j := 66) rfl) rfl
theorem dR_far_67 : decode (mcc mR_far) 67 = .ok (.bipush 6, 2) := o16 (a := 6) (byt_of hR_far_b0 (j := 67) rfl) (byt_of hR_far_b0 (j := 68) rfl) rfl
theorem dR_far_69 : decode (mcc mR_far) 69 = .ok (.iload_n 2, 1) := o28 (byt_of hR_far_b0 (j := 69) rfl)
theorem dR_far_70 : decode (mcc mR_far) 70 = .ok (.imul, 1) := o104 (byt_of hR_far_b0 (j := 70) rfl)
theorem dR_far_71 : decode (mcc mR_far) 71 = .ok (.iload_n 1, 1) := o27 (byt_of hR_far_b0 (j := 71) rfl)
theorem dR_far_72 : decode (mcc mR_far) 72 = .ok (.iadd, 1) := o96 (byt_of hR_far_b0 (j := 72) rfl)
theorem dR_far_73 : decode (mcc mR_far) 73 = .ok (.iload_n 3, 1) := o29 (byt_of hR_far_b0 (j := 73) rfl)
theorem dR_far_74 : decode (mcc mR_far) 74 = .ok (.iastore, 1) := o79 (byt_of hR_far_b0 (j := 74) rfl)
theorem dR_far_75 : decode (mcc mR_far) 75 = .ok (.iload 4, 2) := o21 (a := 4) (byt_of hR_far_b0 (j := 75) rfl) (byt_of hR_far_b0 (j := 76) rfl)
theorem dR_far_77 : decode (mcc mR_far) 77 = .ok (.ireturn, 1) := o172 (byt_of hR_far_b0 (j := 77) rfl)
def bR_hush_b0 : List Nat := [27, 3, 8, 184, 0, 151, 154, 0, 5, 2, 172, 28, 3, 16, 9, 184, 0, 151, 154, 0, 6, 16, 254, 172, 42, 180, 0, 13, 27, 46, 62, 42, 180, 0, 13, 27, 28, 79, 29, 172]
theorem hR_hush_b0 : BL (mcc mR_hush) 0 bR_hush_b0 := by decide +kernel
theorem dR_hush_0 : decode (mcc mR_hush) 0 = .ok (.iload_n 1, 1) := o27 (byt_of hR_hush_b0 (j := 0) rfl)
theorem dR_hush_1 : decode (mcc mR_hush) 1 = .ok (.iconst 0, 1) := o3 (byt_of hR_hush_b0 (j := 1) rfl)
theorem dR_hush_2 : decode (mcc mR_hush) 2 = .ok (.iconst 5, 1) := o8 (byt_of hR_hush_b0 (j := 2) rfl)
theorem dR_hush_3 : decode (mcc mR_hush) 3 = .ok (.invokestatic 151, 3) := o184 (a := 0) (b := 151) (byt_of hR_hush_b0 (j := 3) rfl) (byt_of hR_hush_b0 (j := 4) rfl) (byt_of hR_hush_b0 (j := 5) rfl) rfl
theorem dR_hush_6 : decode (mcc mR_hush) 6 = .ok (.ifCond .ne 5, 3) := o154 (a := 0) (b := 5) (byt_of hR_hush_b0 (j := 6) rfl) (byt_of hR_hush_b0 (j := 7) rfl) (byt_of hR_hush_b0 (j := 8) rfl) rfl
theorem dR_hush_9 : decode (mcc mR_hush) 9 = .ok (.iconst (-1), 1) := o2 (byt_of hR_hush_b0 (j := 9) rfl)
theorem dR_hush_10 : decode (mcc mR_hush) 10 = .ok (.ireturn, 1) := o172 (byt_of hR_hush_b0 (j := 10) rfl)
theorem dR_hush_11 : decode (mcc mR_hush) 11 = .ok (.iload_n 2, 1) := o28 (byt_of hR_hush_b0 (j := 11) rfl)
theorem dR_hush_12 : decode (mcc mR_hush) 12 = .ok (.iconst 0, 1) := o3 (byt_of hR_hush_b0 (j := 12) rfl)
theorem dR_hush_13 : decode (mcc mR_hush) 13 = .ok (.bipush 9, 2) := o16 (a := 9) (byt_of hR_hush_b0 (j := 13) rfl) (byt_of hR_hush_b0 (j := 14) rfl) rfl
theorem dR_hush_15 : decode (mcc mR_hush) 15 = .ok (.invokestatic 151, 3) := o184 (a := 0) (b := 151) (byt_of hR_hush_b0 (j := 15) rfl) (byt_of hR_hush_b0 (j := 16) rfl) (byt_of hR_hush_b0 (j := 17) rfl) rfl
theorem dR_hush_18 : decode (mcc mR_hush) 18 = .ok (.ifCond .ne 6, 3) := o154 (a := 0) (b := 6) (byt_of hR_hush_b0 (j := 18) rfl) (byt_of hR_hush_b0 (j := 19) rfl) (byt_of hR_hush_b0 (j := 20) rfl) rfl
theorem dR_hush_21 : decode (mcc mR_hush) 21 = .ok (.bipush (-2), 2) := o16 (a := 254) (byt_of hR_hush_b0 (j := 21) rfl) (byt_of hR_hush_b0 (j := 22) rfl) rfl
theorem dR_hush_23 : decode (mcc mR_hush) 23 = .ok (.ireturn, 1) := o172 (byt_of hR_hush_b0 (j := 23) rfl)
theorem dR_hush_24 : decode (mcc mR_hush) 24 = .ok (.aload_n 0, 1) := o42 (byt_of hR_hush_b0 (j := 24) rfl)
theorem dR_hush_25 : decode (mcc mR_hush) 25 = .ok (.getfield 13, 3) := o180 (a := 0) (b := 13) (byt_of hR_hush_b0 (j := 25) rfl) (byt_of hR_hush_b0 (j := 26) rfl) (byt_of hR_hush_b0 (j := 27) rfl) rfl
theorem dR_hush_28 : decode (mcc mR_hush) 28 = .ok (.iload_n 1, 1) := o27 (byt_of hR_hush_b0 (j := 28) rfl)
theorem dR_hush_29 : decode (mcc mR_hush) 29 = .ok (.iaload, 1) := o46 (byt_of hR_hush_b0 (j := 29) rfl)
theorem dR_hush_30 : decode (mcc mR_hush) 30 = .ok (.istore_n 3, 1) := o62 (byt_of hR_hush_b0 (j := 30) rfl)
theorem dR_hush_31 : decode (mcc mR_hush) 31 = .ok (.aload_n 0, 1) := o42 (byt_of hR_hush_b0 (j := 31) rfl)
theorem dR_hush_32 : decode (mcc mR_hush) 32 = .ok (.getfield 13, 3) := o180 (a := 0) (b := 13) (byt_of hR_hush_b0 (j := 32) rfl) (byt_of hR_hush_b0 (j := 33) rfl) (byt_of hR_hush_b0 (j := 34) rfl) rfl
theorem dR_hush_35 : decode (mcc mR_hush) 35 = .ok (.iload_n 1, 1) := o27 (byt_of hR_hush_b0 (j := 35) rfl)
theorem dR_hush_36 : decode (mcc mR_hush) 36 = .ok (.iload_n 2, 1) := o28 (byt_of hR_hush_b0 (j := 36) rfl)
theorem dR_hush_37 : decode (mcc mR_hush) 37 = .ok (.iastore, 1) := o79 (byt_of hR_hush_b0 (j := 37) rfl)
theorem dR_hush_38 : decode (mcc mR_hush) 38 = .ok (.iload_n 3, 1) := o29 (byt_of hR_hush_b0 (j := 38) rfl)
theorem dR_hush_39 : decode (mcc mR_hush) 39 = .ok (.ireturn, 1) := o172 (byt_of hR_hush_b0 (j := 39) rfl)
def bR_stride_b0 : List Nat := [27, 3, 16, 9, 184, 0, 151, 154, 0, 6, 16, 254, 172, 42, 180, 0, 16, 61, 42, 27, 181, 0, 16, 28, 172]
theorem hR_stride_b0 : BL (mcc mR_stride) 0 bR_stride_b0 := by decide +kernel
theorem dR_stride_0 : decode (mcc mR_stride) 0 = .ok (.iload_n 1, 1) := o27 (byt_of hR_stride_b0 (j := 0) rfl)
theorem dR_stride_1 : decode (mcc mR_stride) 1 = .ok (.iconst 0, 1) := o3 (byt_of hR_stride_b0 (j := 1) rfl)
theorem dR_stride_2 : decode (mcc mR_stride) 2 = .ok (.bipush 9, 2) := o16 (a := 9) (byt_of hR_stride_b0 (j := 2) rfl) (byt_of hR_stride_b0 (j := 3) rfl) rfl
theorem dR_stride_4 : decode (mcc mR_stride) 4 = .ok (.invokestatic 151, 3) := o184 (a := 0) (b := 151) (byt_of hR_stride_b0 (j := 4) rfl) (byt_of hR_stride_b0 (j := 5) rfl) (byt_of hR_stride_b0 (j := 6) rfl) rfl
theorem dR_stride_7 : decode (mcc mR_stride) 7 = .ok (.ifCond .ne 6, 3) := o154 (a := 0) (b := 6) (byt_of hR_stride_b0 (j := 7) rfl) (byt_of hR_stride_b0 (j := 8) rfl) (byt_of hR_stride_b0 (j := 9) rfl) rfl
theorem dR_stride_10 : decode (mcc mR_stride) 10 = .ok (.bipush (-2), 2) := o16 (a := 254) (byt_of hR_stride_b0 (j := 10) rfl) (byt_of hR_stride_b0 (j := 11) rfl) rfl
theorem dR_stride_12 : decode (mcc mR_stride) 12 = .ok (.ireturn, 1) := o172 (byt_of hR_stride_b0 (j := 12) rfl)
theorem dR_stride_13 : decode (mcc mR_stride) 13 = .ok (.aload_n 0, 1) := o42 (byt_of hR_stride_b0 (j := 13) rfl)
theorem dR_stride_14 : decode (mcc mR_stride) 14 = .ok (.getfield 16, 3) := o180 (a := 0) (b := 16) (byt_of hR_stride_b0 (j := 14) rfl) (byt_of hR_stride_b0 (j := 15) rfl) (byt_of hR_stride_b0 (j := 16) rfl) rfl
theorem dR_stride_17 : decode (mcc mR_stride) 17 = .ok (.istore_n 2, 1) := o61 (byt_of hR_stride_b0 (j := 17) rfl)
theorem dR_stride_18 : decode (mcc mR_stride) 18 = .ok (.aload_n 0, 1) := o42 (byt_of hR_stride_b0 (j := 18) rfl)
theorem dR_stride_19 : decode (mcc mR_stride) 19 = .ok (.iload_n 1, 1) := o27 (byt_of hR_stride_b0 (j := 19) rfl)
theorem dR_stride_20 : decode (mcc mR_stride) 20 = .ok (.putfield 16, 3) := o181 (a := 0) (b := 16) (byt_of hR_stride_b0 (j := 20) rfl) (byt_of hR_stride_b0 (j := 21) rfl) (byt_of hR_stride_b0 (j := 22) rfl) rfl
theorem dR_stride_23 : decode (mcc mR_stride) 23 = .ok (.iload_n 2, 1) := o28 (byt_of hR_stride_b0 (j := 23) rfl)
theorem dR_stride_24 : decode (mcc mR_stride) 24 = .ok (.ireturn, 1) := o172 (byt_of hR_stride_b0 (j := 24) rfl)
def bR_count_b0 : List Nat := [27, 170, 0, 0, 0, 0, 0, 78, 0, 0, 0, 0, 0, 0, 0, 6, 0, 0, 0, 43, 0, 0, 0, 48, 0, 0, 0, 53, 0, 0, 0, 58, 0, 0, 0, 63, 0, 0, 0, 68, 0, 0, 0, 73, 42, 180, 0, 16, 172, 42, 180, 0, 148, 172, 42, 180, 0, 155, 172, 42, 180, 0, 158, 172, 42, 180, 0, 161, 172, 42, 180, 0, 164, 172, 42, 180, 0, 137, 172, 16, 254, 172]
theorem hR_count_b0 : BL (mcc mR_count) 0 bR_count_b0 := by decide +kernel
theorem dR_count_0 : decode (mcc mR_count) 0 = .ok (.iload_n 1, 1) := o27 (byt_of hR_count_b0 (j := 0) rfl)
theorem dR_count_1 : decode (mcc mR_count) 1 = .ok (.tableswitch 78 0 6 #[43, 48, 53, 58, 63, 68, 73], 43) := by decide +kernel
theorem dR_count_44 : decode (mcc mR_count) 44 = .ok (.aload_n 0, 1) := o42 (byt_of hR_count_b0 (j := 44) rfl)
theorem dR_count_45 : decode (mcc mR_count) 45 = .ok (.getfield 16, 3) := o180 (a := 0) (b := 16) (byt_of hR_count_b0 (j := 45) rfl) (byt_of hR_count_b0 (j := 46) rfl) (byt_of hR_count_b0 (j := 47) rfl) rfl
theorem dR_count_48 : decode (mcc mR_count) 48 = .ok (.ireturn, 1) := o172 (byt_of hR_count_b0 (j := 48) rfl)
theorem dR_count_49 : decode (mcc mR_count) 49 = .ok (.aload_n 0, 1) := o42 (byt_of hR_count_b0 (j := 49) rfl)
theorem dR_count_50 : decode (mcc mR_count) 50 = .ok (.getfield 148, 3) := o180 (a := 0) (b := 148) (byt_of hR_count_b0 (j := 50) rfl) (byt_of hR_count_b0 (j := 51) rfl) (byt_of hR_count_b0 (j := 52) rfl) rfl
theorem dR_count_53 : decode (mcc mR_count) 53 = .ok (.ireturn, 1) := o172 (byt_of hR_count_b0 (j := 53) rfl)
theorem dR_count_54 : decode (mcc mR_count) 54 = .ok (.aload_n 0, 1) := o42 (byt_of hR_count_b0 (j := 54) rfl)
theorem dR_count_55 : decode (mcc mR_count) 55 = .ok (.getfield 155, 3) := o180 (a := 0) (b := 155) (byt_of hR_count_b0 (j := 55) rfl) (byt_of hR_count_b0 (j := 56) rfl) (byt_of hR_count_b0 (j := 57) rfl) rfl
theorem dR_count_58 : decode (mcc mR_count) 58 = .ok (.ireturn, 1) := o172 (byt_of hR_count_b0 (j := 58) rfl)
theorem dR_count_59 : decode (mcc mR_count) 59 = .ok (.aload_n 0, 1) := o42 (byt_of hR_count_b0 (j := 59) rfl)
theorem dR_count_60 : decode (mcc mR_count) 60 = .ok (.getfield 158, 3) := o180 (a := 0) (b := 158) (byt_of hR_count_b0 (j := 60) rfl) (byt_of hR_count_b0 (j := 61) rfl) (byt_of hR_count_b0 (j := 62) rfl) rfl
theorem dR_count_63 : decode (mcc mR_count) 63 = .ok (.ireturn, 1) := o172 (byt_of hR_count_b0 (j := 63) rfl)
theorem dR_count_64 : decode (mcc mR_count) 64 = .ok (.aload_n 0, 1) := o42 (byt_of hR_count_b0 (j := 64) rfl)
theorem dR_count_65 : decode (mcc mR_count) 65 = .ok (.getfield 161, 3) := o180 (a := 0) (b := 161) (byt_of hR_count_b0 (j := 65) rfl) (byt_of hR_count_b0 (j := 66) rfl) (byt_of hR_count_b0 (j := 67) rfl) rfl
theorem dR_count_68 : decode (mcc mR_count) 68 = .ok (.ireturn, 1) := o172 (byt_of hR_count_b0 (j := 68) rfl)
theorem dR_count_69 : decode (mcc mR_count) 69 = .ok (.aload_n 0, 1) := o42 (byt_of hR_count_b0 (j := 69) rfl)
theorem dR_count_70 : decode (mcc mR_count) 70 = .ok (.getfield 164, 3) := o180 (a := 0) (b := 164) (byt_of hR_count_b0 (j := 70) rfl) (byt_of hR_count_b0 (j := 71) rfl) (byt_of hR_count_b0 (j := 72) rfl) rfl
theorem dR_count_73 : decode (mcc mR_count) 73 = .ok (.ireturn, 1) := o172 (byt_of hR_count_b0 (j := 73) rfl)
theorem dR_count_74 : decode (mcc mR_count) 74 = .ok (.aload_n 0, 1) := o42 (byt_of hR_count_b0 (j := 74) rfl)
theorem dR_count_75 : decode (mcc mR_count) 75 = .ok (.getfield 137, 3) := o180 (a := 0) (b := 137) (byt_of hR_count_b0 (j := 75) rfl) (byt_of hR_count_b0 (j := 76) rfl) (byt_of hR_count_b0 (j := 77) rfl) rfl
theorem dR_count_78 : decode (mcc mR_count) 78 = .ok (.ireturn, 1) := o172 (byt_of hR_count_b0 (j := 78) rfl)
theorem dR_count_79 : decode (mcc mR_count) 79 = .ok (.bipush (-2), 2) := o16 (a := 254) (byt_of hR_count_b0 (j := 79) rfl) (byt_of hR_count_b0 (j := 80) rfl) rfl
theorem dR_count_81 : decode (mcc mR_count) 81 = .ok (.ireturn, 1) := o172 (byt_of hR_count_b0 (j := 81) rfl)
def bR_isByte_b0 : List Nat := [26, 3, 17, 0, 255, 184, 0, 151, 172]
theorem hR_isByte_b0 : BL (mcc mR_isByte) 0 bR_isByte_b0 := by decide +kernel
theorem dR_isByte_0 : decode (mcc mR_isByte) 0 = .ok (.iload_n 0, 1) := o26 (byt_of hR_isByte_b0 (j := 0) rfl)
theorem dR_isByte_1 : decode (mcc mR_isByte) 1 = .ok (.iconst 0, 1) := o3 (byt_of hR_isByte_b0 (j := 1) rfl)
theorem dR_isByte_2 : decode (mcc mR_isByte) 2 = .ok (.sipush 255, 3) := o17 (a := 0) (b := 255) (byt_of hR_isByte_b0 (j := 2) rfl) (byt_of hR_isByte_b0 (j := 3) rfl) (byt_of hR_isByte_b0 (j := 4) rfl) rfl
theorem dR_isByte_5 : decode (mcc mR_isByte) 5 = .ok (.invokestatic 151, 3) := o184 (a := 0) (b := 151) (byt_of hR_isByte_b0 (j := 5) rfl) (byt_of hR_isByte_b0 (j := 6) rfl) (byt_of hR_isByte_b0 (j := 7) rfl) rfl
theorem dR_isByte_8 : decode (mcc mR_isByte) 8 = .ok (.ireturn, 1) := o172 (byt_of hR_isByte_b0 (j := 8) rfl)
def bR_feed_b0 : List Nat := [27, 4, 8, 184, 0, 151, 153, 0, 41, 28, 184, 0, 167, 153, 0, 34, 29, 184, 0, 167, 153, 0, 27, 21, 4, 184, 0, 167, 153, 0, 19, 21, 5, 184, 0, 167, 153, 0, 11, 21, 6, 184, 0, 167, 154, 0, 6, 16, 254, 172, 42, 180, 0, 137, 27, 96, 17, 0, 160, 164, 0, 6, 16, 252, 172, 3, 54, 7, 21, 7, 27, 162, 0, 71, 42, 180, 0, 68, 42, 180, 0, 137, 21, 7, 154, 0, 7, 28, 167, 0, 37, 21, 7, 4, 160, 0, 7, 29, 167, 0, 27, 21]
theorem hR_feed_b0 : BL (mcc mR_feed) 0 bR_feed_b0 := by decide +kernel
theorem dR_feed_0 : decode (mcc mR_feed) 0 = .ok (.iload_n 1, 1) := o27 (byt_of hR_feed_b0 (j := 0) rfl)
theorem dR_feed_1 : decode (mcc mR_feed) 1 = .ok (.iconst 1, 1) := o4 (byt_of hR_feed_b0 (j := 1) rfl)
theorem dR_feed_2 : decode (mcc mR_feed) 2 = .ok (.iconst 5, 1) := o8 (byt_of hR_feed_b0 (j := 2) rfl)
theorem dR_feed_3 : decode (mcc mR_feed) 3 = .ok (.invokestatic 151, 3) := o184 (a := 0) (b := 151) (byt_of hR_feed_b0 (j := 3) rfl) (byt_of hR_feed_b0 (j := 4) rfl) (byt_of hR_feed_b0 (j := 5) rfl) rfl
theorem dR_feed_6 : decode (mcc mR_feed) 6 = .ok (.ifCond .eq 41, 3) := o153 (a := 0) (b := 41) (byt_of hR_feed_b0 (j := 6) rfl) (byt_of hR_feed_b0 (j := 7) rfl) (byt_of hR_feed_b0 (j := 8) rfl) rfl
theorem dR_feed_9 : decode (mcc mR_feed) 9 = .ok (.iload_n 2, 1) := o28 (byt_of hR_feed_b0 (j := 9) rfl)
theorem dR_feed_10 : decode (mcc mR_feed) 10 = .ok (.invokestatic 167, 3) := o184 (a := 0) (b := 167) (byt_of hR_feed_b0 (j := 10) rfl) (byt_of hR_feed_b0 (j := 11) rfl) (byt_of hR_feed_b0 (j := 12) rfl) rfl
theorem dR_feed_13 : decode (mcc mR_feed) 13 = .ok (.ifCond .eq 34, 3) := o153 (a := 0) (b := 34) (byt_of hR_feed_b0 (j := 13) rfl) (byt_of hR_feed_b0 (j := 14) rfl) (byt_of hR_feed_b0 (j := 15) rfl) rfl
theorem dR_feed_16 : decode (mcc mR_feed) 16 = .ok (.iload_n 3, 1) := o29 (byt_of hR_feed_b0 (j := 16) rfl)
theorem dR_feed_17 : decode (mcc mR_feed) 17 = .ok (.invokestatic 167, 3) := o184 (a := 0) (b := 167) (byt_of hR_feed_b0 (j := 17) rfl) (byt_of hR_feed_b0 (j := 18) rfl) (byt_of hR_feed_b0 (j := 19) rfl) rfl
theorem dR_feed_20 : decode (mcc mR_feed) 20 = .ok (.ifCond .eq 27, 3) := o153 (a := 0) (b := 27) (byt_of hR_feed_b0 (j := 20) rfl) (byt_of hR_feed_b0 (j := 21) rfl) (byt_of hR_feed_b0 (j := 22) rfl) rfl
theorem dR_feed_23 : decode (mcc mR_feed) 23 = .ok (.iload 4, 2) := o21 (a := 4) (byt_of hR_feed_b0 (j := 23) rfl) (byt_of hR_feed_b0 (j := 24) rfl)
theorem dR_feed_25 : decode (mcc mR_feed) 25 = .ok (.invokestatic 167, 3) := o184 (a := 0) (b := 167) (byt_of hR_feed_b0 (j := 25) rfl) (byt_of hR_feed_b0 (j := 26) rfl) (byt_of hR_feed_b0 (j := 27) rfl) rfl
theorem dR_feed_28 : decode (mcc mR_feed) 28 = .ok (.ifCond .eq 19, 3) := o153 (a := 0) (b := 19) (byt_of hR_feed_b0 (j := 28) rfl) (byt_of hR_feed_b0 (j := 29) rfl) (byt_of hR_feed_b0 (j := 30) rfl) rfl
theorem dR_feed_31 : decode (mcc mR_feed) 31 = .ok (.iload 5, 2) := o21 (a := 5) (byt_of hR_feed_b0 (j := 31) rfl) (byt_of hR_feed_b0 (j := 32) rfl)
theorem dR_feed_33 : decode (mcc mR_feed) 33 = .ok (.invokestatic 167, 3) := o184 (a := 0) (b := 167) (byt_of hR_feed_b0 (j := 33) rfl) (byt_of hR_feed_b0 (j := 34) rfl) (byt_of hR_feed_b0 (j := 35) rfl) rfl
theorem dR_feed_36 : decode (mcc mR_feed) 36 = .ok (.ifCond .eq 11, 3) := o153 (a := 0) (b := 11) (byt_of hR_feed_b0 (j := 36) rfl) (byt_of hR_feed_b0 (j := 37) rfl) (byt_of hR_feed_b0 (j := 38) rfl) rfl
theorem dR_feed_39 : decode (mcc mR_feed) 39 = .ok (.iload 6, 2) := o21 (a := 6) (byt_of hR_feed_b0 (j := 39) rfl) (byt_of hR_feed_b0 (j := 40) rfl)
theorem dR_feed_41 : decode (mcc mR_feed) 41 = .ok (.invokestatic 167, 3) := o184 (a := 0) (b := 167) (byt_of hR_feed_b0 (j := 41) rfl) (byt_of hR_feed_b0 (j := 42) rfl) (byt_of hR_feed_b0 (j := 43) rfl) rfl
theorem dR_feed_44 : decode (mcc mR_feed) 44 = .ok (.ifCond .ne 6, 3) := o154 (a := 0) (b := 6) (byt_of hR_feed_b0 (j := 44) rfl) (byt_of hR_feed_b0 (j := 45) rfl) (byt_of hR_feed_b0 (j := 46) rfl) rfl
theorem dR_feed_47 : decode (mcc mR_feed) 47 = .ok (.bipush (-2), 2) := o16 (a := 254) (byt_of hR_feed_b0 (j := 47) rfl) (byt_of hR_feed_b0 (j := 48) rfl) rfl
theorem dR_feed_49 : decode (mcc mR_feed) 49 = .ok (.ireturn, 1) := o172 (byt_of hR_feed_b0 (j := 49) rfl)
theorem dR_feed_50 : decode (mcc mR_feed) 50 = .ok (.aload_n 0, 1) := o42 (byt_of hR_feed_b0 (j := 50) rfl)
theorem dR_feed_51 : decode (mcc mR_feed) 51 = .ok (.getfield 137, 3) := o180 (a := 0) (b := 137) (byt_of hR_feed_b0 (j := 51) rfl) (byt_of hR_feed_b0 (j := 52) rfl) (byt_of hR_feed_b0 (j := 53) rfl) rfl
theorem dR_feed_54 : decode (mcc mR_feed) 54 = .ok (.iload_n 1, 1) := o27 (byt_of hR_feed_b0 (j := 54) rfl)
theorem dR_feed_55 : decode (mcc mR_feed) 55 = .ok (.iadd, 1) := o96 (byt_of hR_feed_b0 (j := 55) rfl)
theorem dR_feed_56 : decode (mcc mR_feed) 56 = .ok (.sipush 160, 3) := o17 (a := 0) (b := 160) (byt_of hR_feed_b0 (j := 56) rfl) (byt_of hR_feed_b0 (j := 57) rfl) (byt_of hR_feed_b0 (j := 58) rfl) rfl
theorem dR_feed_59 : decode (mcc mR_feed) 59 = .ok (.if_icmp .le 6, 3) := o164 (a := 0) (b := 6) (byt_of hR_feed_b0 (j := 59) rfl) (byt_of hR_feed_b0 (j := 60) rfl) (byt_of hR_feed_b0 (j := 61) rfl) rfl
theorem dR_feed_62 : decode (mcc mR_feed) 62 = .ok (.bipush (-4), 2) := o16 (a := 252) (byt_of hR_feed_b0 (j := 62) rfl) (byt_of hR_feed_b0 (j := 63) rfl) rfl
theorem dR_feed_64 : decode (mcc mR_feed) 64 = .ok (.ireturn, 1) := o172 (byt_of hR_feed_b0 (j := 64) rfl)
theorem dR_feed_65 : decode (mcc mR_feed) 65 = .ok (.iconst 0, 1) := o3 (byt_of hR_feed_b0 (j := 65) rfl)
theorem dR_feed_66 : decode (mcc mR_feed) 66 = .ok (.istore 7, 2) := o54 (a := 7) (byt_of hR_feed_b0 (j := 66) rfl) (byt_of hR_feed_b0 (j := 67) rfl)
theorem dR_feed_68 : decode (mcc mR_feed) 68 = .ok (.iload 7, 2) := o21 (a := 7) (byt_of hR_feed_b0 (j := 68) rfl) (byt_of hR_feed_b0 (j := 69) rfl)
theorem dR_feed_70 : decode (mcc mR_feed) 70 = .ok (.iload_n 1, 1) := o27 (byt_of hR_feed_b0 (j := 70) rfl)
theorem dR_feed_71 : decode (mcc mR_feed) 71 = .ok (.if_icmp .ge 71, 3) := o162 (a := 0) (b := 71) (byt_of hR_feed_b0 (j := 71) rfl) (byt_of hR_feed_b0 (j := 72) rfl) (byt_of hR_feed_b0 (j := 73) rfl) rfl
theorem dR_feed_74 : decode (mcc mR_feed) 74 = .ok (.aload_n 0, 1) := o42 (byt_of hR_feed_b0 (j := 74) rfl)
theorem dR_feed_75 : decode (mcc mR_feed) 75 = .ok (.getfield 68, 3) := o180 (a := 0) (b := 68) (byt_of hR_feed_b0 (j := 75) rfl) (byt_of hR_feed_b0 (j := 76) rfl) (byt_of hR_feed_b0 (j := 77) rfl) rfl
theorem dR_feed_78 : decode (mcc mR_feed) 78 = .ok (.aload_n 0, 1) := o42 (byt_of hR_feed_b0 (j := 78) rfl)
theorem dR_feed_79 : decode (mcc mR_feed) 79 = .ok (.getfield 137, 3) := o180 (a := 0) (b := 137) (byt_of hR_feed_b0 (j := 79) rfl) (byt_of hR_feed_b0 (j := 80) rfl) (byt_of hR_feed_b0 (j := 81) rfl) rfl
theorem dR_feed_82 : decode (mcc mR_feed) 82 = .ok (.iload 7, 2) := o21 (a := 7) (byt_of hR_feed_b0 (j := 82) rfl) (byt_of hR_feed_b0 (j := 83) rfl)
theorem dR_feed_84 : decode (mcc mR_feed) 84 = .ok (.ifCond .ne 7, 3) := o154 (a := 0) (b := 7) (byt_of hR_feed_b0 (j := 84) rfl) (byt_of hR_feed_b0 (j := 85) rfl) (byt_of hR_feed_b0 (j := 86) rfl) rfl
theorem dR_feed_87 : decode (mcc mR_feed) 87 = .ok (.iload_n 2, 1) := o28 (byt_of hR_feed_b0 (j := 87) rfl)
theorem dR_feed_88 : decode (mcc mR_feed) 88 = .ok (.goto 37, 3) := o167 (a := 0) (b := 37) (byt_of hR_feed_b0 (j := 88) rfl) (byt_of hR_feed_b0 (j := 89) rfl) (byt_of hR_feed_b0 (j := 90) rfl) rfl
theorem dR_feed_91 : decode (mcc mR_feed) 91 = .ok (.iload 7, 2) := o21 (a := 7) (byt_of hR_feed_b0 (j := 91) rfl) (byt_of hR_feed_b0 (j := 92) rfl)
theorem dR_feed_93 : decode (mcc mR_feed) 93 = .ok (.iconst 1, 1) := o4 (byt_of hR_feed_b0 (j := 93) rfl)
theorem dR_feed_94 : decode (mcc mR_feed) 94 = .ok (.if_icmp .ne 7, 3) := o160 (a := 0) (b := 7) (byt_of hR_feed_b0 (j := 94) rfl) (byt_of hR_feed_b0 (j := 95) rfl) (byt_of hR_feed_b0 (j := 96) rfl) rfl
def bR_feed_b1 : List Nat := [7, 29, 167, 0, 27, 21, 7, 5, 160, 0, 8, 21, 4, 167, 0, 16, 21, 7, 6, 160, 0, 8, 21, 5, 167, 0, 5, 21, 6, 79, 42, 89, 180, 0, 137, 4, 96, 181, 0, 137, 132, 7, 1, 167, 255, 185, 42, 180, 0, 137, 172]
theorem hR_feed_b1 : BL (mcc mR_feed) 96 bR_feed_b1 := by decide +kernel
theorem dR_feed_97 : decode (mcc mR_feed) 97 = .ok (.iload_n 3, 1) := o29 (byt_of hR_feed_b1 (j := 1) rfl)
theorem dR_feed_98 : decode (mcc mR_feed) 98 = .ok (.goto 27, 3) := o167 (a := 0) (b := 27) (byt_of hR_feed_b1 (j := 2) rfl) (byt_of hR_feed_b1 (j := 3) rfl) (byt_of hR_feed_b1 (j := 4) rfl) rfl
theorem dR_feed_101 : decode (mcc mR_feed) 101 = .ok (.iload 7, 2) := o21 (a := 7) (byt_of hR_feed_b1 (j := 5) rfl) (byt_of hR_feed_b1 (j := 6) rfl)
theorem dR_feed_103 : decode (mcc mR_feed) 103 = .ok (.iconst 2, 1) := o5 (byt_of hR_feed_b1 (j := 7) rfl)
theorem dR_feed_104 : decode (mcc mR_feed) 104 = .ok (.if_icmp .ne 8, 3) := o160 (a := 0) (b := 8) (byt_of hR_feed_b1 (j := 8) rfl) (byt_of hR_feed_b1 (j := 9) rfl) (byt_of hR_feed_b1 (j := 10) rfl) rfl
theorem dR_feed_107 : decode (mcc mR_feed) 107 = .ok (.iload 4, 2) := o21 (a := 4) (byt_of hR_feed_b1 (j := 11) rfl) (byt_of hR_feed_b1 (j := 12) rfl)
theorem dR_feed_109 : decode (mcc mR_feed) 109 = .ok (.goto 16, 3) := o167 (a := 0) (b := 16) (byt_of hR_feed_b1 (j := 13) rfl) (byt_of hR_feed_b1 (j := 14) rfl) (byt_of hR_feed_b1 (j := 15) rfl) rfl
theorem dR_feed_112 : decode (mcc mR_feed) 112 = .ok (.iload 7, 2) := o21 (a := 7) (byt_of hR_feed_b1 (j := 16) rfl) (byt_of hR_feed_b1 (j := 17) rfl)
theorem dR_feed_114 : decode (mcc mR_feed) 114 = .ok (.iconst 3, 1) := o6 (byt_of hR_feed_b1 (j := 18) rfl)
theorem dR_feed_115 : decode (mcc mR_feed) 115 = .ok (.if_icmp .ne 8, 3) := o160 (a := 0) (b := 8) (byt_of hR_feed_b1 (j := 19) rfl) (byt_of hR_feed_b1 (j := 20) rfl) (byt_of hR_feed_b1 (j := 21) rfl) rfl
theorem dR_feed_118 : decode (mcc mR_feed) 118 = .ok (.iload 5, 2) := o21 (a := 5) (byt_of hR_feed_b1 (j := 22) rfl) (byt_of hR_feed_b1 (j := 23) rfl)
theorem dR_feed_120 : decode (mcc mR_feed) 120 = .ok (.goto 5, 3) := o167 (a := 0) (b := 5) (byt_of hR_feed_b1 (j := 24) rfl) (byt_of hR_feed_b1 (j := 25) rfl) (byt_of hR_feed_b1 (j := 26) rfl) rfl
theorem dR_feed_123 : decode (mcc mR_feed) 123 = .ok (.iload 6, 2) := o21 (a := 6) (byt_of hR_feed_b1 (j := 27) rfl) (byt_of hR_feed_b1 (j := 28) rfl)
theorem dR_feed_125 : decode (mcc mR_feed) 125 = .ok (.iastore, 1) := o79 (byt_of hR_feed_b1 (j := 29) rfl)
theorem dR_feed_126 : decode (mcc mR_feed) 126 = .ok (.aload_n 0, 1) := o42 (byt_of hR_feed_b1 (j := 30) rfl)
theorem dR_feed_127 : decode (mcc mR_feed) 127 = .ok (.dup, 1) := o89 (byt_of hR_feed_b1 (j := 31) rfl)
theorem dR_feed_128 : decode (mcc mR_feed) 128 = .ok (.getfield 137, 3) := o180 (a := 0) (b := 137) (byt_of hR_feed_b1 (j := 32) rfl) (byt_of hR_feed_b1 (j := 33) rfl) (byt_of hR_feed_b1 (j := 34) rfl) rfl
theorem dR_feed_131 : decode (mcc mR_feed) 131 = .ok (.iconst 1, 1) := o4 (byt_of hR_feed_b1 (j := 35) rfl)
theorem dR_feed_132 : decode (mcc mR_feed) 132 = .ok (.iadd, 1) := o96 (byt_of hR_feed_b1 (j := 36) rfl)
theorem dR_feed_133 : decode (mcc mR_feed) 133 = .ok (.putfield 137, 3) := o181 (a := 0) (b := 137) (byt_of hR_feed_b1 (j := 37) rfl) (byt_of hR_feed_b1 (j := 38) rfl) (byt_of hR_feed_b1 (j := 39) rfl) rfl
theorem dR_feed_136 : decode (mcc mR_feed) 136 = .ok (.iinc 7 1, 3) := o132 (a := 7) (b := 1) (byt_of hR_feed_b1 (j := 40) rfl) (byt_of hR_feed_b1 (j := 41) rfl) (byt_of hR_feed_b1 (j := 42) rfl) rfl
theorem dR_feed_139 : decode (mcc mR_feed) 139 = .ok (.goto (-71), 3) := o167 (a := 255) (b := 185) (byt_of hR_feed_b1 (j := 43) rfl) (byt_of hR_feed_b1 (j := 44) rfl) (byt_of hR_feed_b1 (j := 45) rfl) rfl
theorem dR_feed_142 : decode (mcc mR_feed) 142 = .ok (.aload_n 0, 1) := o42 (byt_of hR_feed_b1 (j := 46) rfl)
theorem dR_feed_143 : decode (mcc mR_feed) 143 = .ok (.getfield 137, 3) := o180 (a := 0) (b := 137) (byt_of hR_feed_b1 (j := 47) rfl) (byt_of hR_feed_b1 (j := 48) rfl) (byt_of hR_feed_b1 (j := 49) rfl) rfl
theorem dR_feed_146 : decode (mcc mR_feed) 146 = .ok (.ireturn, 1) := o172 (byt_of hR_feed_b1 (j := 50) rfl)
def bR_wordFrom_b0 : List Nat := [3, 62, 29, 16, 12, 162, 0, 96, 28, 27, 100, 16, 8, 163, 0, 7, 4, 167, 0, 4, 3, 54, 4, 3, 54, 5, 21, 5, 16, 8, 162, 0, 58, 21, 4, 153, 0, 53, 42, 180, 0, 110, 16, 8, 29, 104, 21, 5, 96, 46, 27, 21, 5, 96, 28, 162, 0, 15, 42, 180, 0, 68, 27, 21, 5, 96, 46, 167, 0, 5, 16, 32, 160, 0, 7, 4, 167, 0, 4, 3, 54, 4, 132, 5, 1, 167, 255, 197, 21, 4, 153, 0, 5, 29, 172, 132, 3, 1, 167, 255, 160, 16]
theorem hR_wordFrom_b0 : BL (mcc mR_wordFrom) 0 bR_wordFrom_b0 := by decide +kernel
theorem dR_wordFrom_0 : decode (mcc mR_wordFrom) 0 = .ok (.iconst 0, 1) := o3 (byt_of hR_wordFrom_b0 (j := 0) rfl)
theorem dR_wordFrom_1 : decode (mcc mR_wordFrom) 1 = .ok (.istore_n 3, 1) := o62 (byt_of hR_wordFrom_b0 (j := 1) rfl)
theorem dR_wordFrom_2 : decode (mcc mR_wordFrom) 2 = .ok (.iload_n 3, 1) := o29 (byt_of hR_wordFrom_b0 (j := 2) rfl)
theorem dR_wordFrom_3 : decode (mcc mR_wordFrom) 3 = .ok (.bipush 12, 2) := o16 (a := 12) (byt_of hR_wordFrom_b0 (j := 3) rfl) (byt_of hR_wordFrom_b0 (j := 4) rfl) rfl
theorem dR_wordFrom_5 : decode (mcc mR_wordFrom) 5 = .ok (.if_icmp .ge 96, 3) := o162 (a := 0) (b := 96) (byt_of hR_wordFrom_b0 (j := 5) rfl) (byt_of hR_wordFrom_b0 (j := 6) rfl) (byt_of hR_wordFrom_b0 (j := 7) rfl) rfl
theorem dR_wordFrom_8 : decode (mcc mR_wordFrom) 8 = .ok (.iload_n 2, 1) := o28 (byt_of hR_wordFrom_b0 (j := 8) rfl)
theorem dR_wordFrom_9 : decode (mcc mR_wordFrom) 9 = .ok (.iload_n 1, 1) := o27 (byt_of hR_wordFrom_b0 (j := 9) rfl)
theorem dR_wordFrom_10 : decode (mcc mR_wordFrom) 10 = .ok (.isub, 1) := o100 (byt_of hR_wordFrom_b0 (j := 10) rfl)
theorem dR_wordFrom_11 : decode (mcc mR_wordFrom) 11 = .ok (.bipush 8, 2) := o16 (a := 8) (byt_of hR_wordFrom_b0 (j := 11) rfl) (byt_of hR_wordFrom_b0 (j := 12) rfl) rfl
theorem dR_wordFrom_13 : decode (mcc mR_wordFrom) 13 = .ok (.if_icmp .gt 7, 3) := o163 (a := 0) (b := 7) (byt_of hR_wordFrom_b0 (j := 13) rfl) (byt_of hR_wordFrom_b0 (j := 14) rfl) (byt_of hR_wordFrom_b0 (j := 15) rfl) rfl
theorem dR_wordFrom_16 : decode (mcc mR_wordFrom) 16 = .ok (.iconst 1, 1) := o4 (byt_of hR_wordFrom_b0 (j := 16) rfl)
theorem dR_wordFrom_17 : decode (mcc mR_wordFrom) 17 = .ok (.goto 4, 3) := o167 (a := 0) (b := 4) (byt_of hR_wordFrom_b0 (j := 17) rfl) (byt_of hR_wordFrom_b0 (j := 18) rfl) (byt_of hR_wordFrom_b0 (j := 19) rfl) rfl
theorem dR_wordFrom_20 : decode (mcc mR_wordFrom) 20 = .ok (.iconst 0, 1) := o3 (byt_of hR_wordFrom_b0 (j := 20) rfl)
theorem dR_wordFrom_21 : decode (mcc mR_wordFrom) 21 = .ok (.istore 4, 2) := o54 (a := 4) (byt_of hR_wordFrom_b0 (j := 21) rfl) (byt_of hR_wordFrom_b0 (j := 22) rfl)
theorem dR_wordFrom_23 : decode (mcc mR_wordFrom) 23 = .ok (.iconst 0, 1) := o3 (byt_of hR_wordFrom_b0 (j := 23) rfl)
theorem dR_wordFrom_24 : decode (mcc mR_wordFrom) 24 = .ok (.istore 5, 2) := o54 (a := 5) (byt_of hR_wordFrom_b0 (j := 24) rfl) (byt_of hR_wordFrom_b0 (j := 25) rfl)
theorem dR_wordFrom_26 : decode (mcc mR_wordFrom) 26 = .ok (.iload 5, 2) := o21 (a := 5) (byt_of hR_wordFrom_b0 (j := 26) rfl) (byt_of hR_wordFrom_b0 (j := 27) rfl)
theorem dR_wordFrom_28 : decode (mcc mR_wordFrom) 28 = .ok (.bipush 8, 2) := o16 (a := 8) (byt_of hR_wordFrom_b0 (j := 28) rfl) (byt_of hR_wordFrom_b0 (j := 29) rfl) rfl
theorem dR_wordFrom_30 : decode (mcc mR_wordFrom) 30 = .ok (.if_icmp .ge 58, 3) := o162 (a := 0) (b := 58) (byt_of hR_wordFrom_b0 (j := 30) rfl) (byt_of hR_wordFrom_b0 (j := 31) rfl) (byt_of hR_wordFrom_b0 (j := 32) rfl) rfl
theorem dR_wordFrom_33 : decode (mcc mR_wordFrom) 33 = .ok (.iload 4, 2) := o21 (a := 4) (byt_of hR_wordFrom_b0 (j := 33) rfl) (byt_of hR_wordFrom_b0 (j := 34) rfl)
theorem dR_wordFrom_35 : decode (mcc mR_wordFrom) 35 = .ok (.ifCond .eq 53, 3) := o153 (a := 0) (b := 53) (byt_of hR_wordFrom_b0 (j := 35) rfl) (byt_of hR_wordFrom_b0 (j := 36) rfl) (byt_of hR_wordFrom_b0 (j := 37) rfl) rfl
theorem dR_wordFrom_38 : decode (mcc mR_wordFrom) 38 = .ok (.aload_n 0, 1) := o42 (byt_of hR_wordFrom_b0 (j := 38) rfl)
theorem dR_wordFrom_39 : decode (mcc mR_wordFrom) 39 = .ok (.getfield 110, 3) := o180 (a := 0) (b := 110) (byt_of hR_wordFrom_b0 (j := 39) rfl) (byt_of hR_wordFrom_b0 (j := 40) rfl) (byt_of hR_wordFrom_b0 (j := 41) rfl) rfl
theorem dR_wordFrom_42 : decode (mcc mR_wordFrom) 42 = .ok (.bipush 8, 2) := o16 (a := 8) (byt_of hR_wordFrom_b0 (j := 42) rfl) (byt_of hR_wordFrom_b0 (j := 43) rfl) rfl
theorem dR_wordFrom_44 : decode (mcc mR_wordFrom) 44 = .ok (.iload_n 3, 1) := o29 (byt_of hR_wordFrom_b0 (j := 44) rfl)
theorem dR_wordFrom_45 : decode (mcc mR_wordFrom) 45 = .ok (.imul, 1) := o104 (byt_of hR_wordFrom_b0 (j := 45) rfl)
theorem dR_wordFrom_46 : decode (mcc mR_wordFrom) 46 = .ok (.iload 5, 2) := o21 (a := 5) (byt_of hR_wordFrom_b0 (j := 46) rfl) (byt_of hR_wordFrom_b0 (j := 47) rfl)
theorem dR_wordFrom_48 : decode (mcc mR_wordFrom) 48 = .ok (.iadd, 1) := o96 (byt_of hR_wordFrom_b0 (j := 48) rfl)
theorem dR_wordFrom_49 : decode (mcc mR_wordFrom) 49 = .ok (.iaload, 1) := o46 (byt_of hR_wordFrom_b0 (j := 49) rfl)
theorem dR_wordFrom_50 : decode (mcc mR_wordFrom) 50 = .ok (.iload_n 1, 1) := o27 (byt_of hR_wordFrom_b0 (j := 50) rfl)
theorem dR_wordFrom_51 : decode (mcc mR_wordFrom) 51 = .ok (.iload 5, 2) := o21 (a := 5) (byt_of hR_wordFrom_b0 (j := 51) rfl) (byt_of hR_wordFrom_b0 (j := 52) rfl)
theorem dR_wordFrom_53 : decode (mcc mR_wordFrom) 53 = .ok (.iadd, 1) := o96 (byt_of hR_wordFrom_b0 (j := 53) rfl)
theorem dR_wordFrom_54 : decode (mcc mR_wordFrom) 54 = .ok (.iload_n 2, 1) := o28 (byt_of hR_wordFrom_b0 (j := 54) rfl)
theorem dR_wordFrom_55 : decode (mcc mR_wordFrom) 55 = .ok (.if_icmp .ge 15, 3) := o162 (a := 0) (b := 15) (byt_of hR_wordFrom_b0 (j := 55) rfl) (byt_of hR_wordFrom_b0 (j := 56) rfl) (byt_of hR_wordFrom_b0 (j := 57) rfl) rfl
theorem dR_wordFrom_58 : decode (mcc mR_wordFrom) 58 = .ok (.aload_n 0, 1) := o42 (byt_of hR_wordFrom_b0 (j := 58) rfl)
theorem dR_wordFrom_59 : decode (mcc mR_wordFrom) 59 = .ok (.getfield 68, 3) := o180 (a := 0) (b := 68) (byt_of hR_wordFrom_b0 (j := 59) rfl) (byt_of hR_wordFrom_b0 (j := 60) rfl) (byt_of hR_wordFrom_b0 (j := 61) rfl) rfl
theorem dR_wordFrom_62 : decode (mcc mR_wordFrom) 62 = .ok (.iload_n 1, 1) := o27 (byt_of hR_wordFrom_b0 (j := 62) rfl)
theorem dR_wordFrom_63 : decode (mcc mR_wordFrom) 63 = .ok (.iload 5, 2) := o21 (a := 5) (byt_of hR_wordFrom_b0 (j := 63) rfl) (byt_of hR_wordFrom_b0 (j := 64) rfl)
theorem dR_wordFrom_65 : decode (mcc mR_wordFrom) 65 = .ok (.iadd, 1) := o96 (byt_of hR_wordFrom_b0 (j := 65) rfl)
theorem dR_wordFrom_66 : decode (mcc mR_wordFrom) 66 = .ok (.iaload, 1) := o46 (byt_of hR_wordFrom_b0 (j := 66) rfl)
theorem dR_wordFrom_67 : decode (mcc mR_wordFrom) 67 = .ok (.goto 5, 3) := o167 (a := 0) (b := 5) (byt_of hR_wordFrom_b0 (j := 67) rfl) (byt_of hR_wordFrom_b0 (j := 68) rfl) (byt_of hR_wordFrom_b0 (j := 69) rfl) rfl
theorem dR_wordFrom_70 : decode (mcc mR_wordFrom) 70 = .ok (.bipush 32, 2) := o16 (a := 32) (byt_of hR_wordFrom_b0 (j := 70) rfl) (byt_of hR_wordFrom_b0 (j := 71) rfl) rfl
theorem dR_wordFrom_72 : decode (mcc mR_wordFrom) 72 = .ok (.if_icmp .ne 7, 3) := o160 (a := 0) (b := 7) (byt_of hR_wordFrom_b0 (j := 72) rfl) (byt_of hR_wordFrom_b0 (j := 73) rfl) (byt_of hR_wordFrom_b0 (j := 74) rfl) rfl
theorem dR_wordFrom_75 : decode (mcc mR_wordFrom) 75 = .ok (.iconst 1, 1) := o4 (byt_of hR_wordFrom_b0 (j := 75) rfl)
theorem dR_wordFrom_76 : decode (mcc mR_wordFrom) 76 = .ok (.goto 4, 3) := o167 (a := 0) (b := 4) (byt_of hR_wordFrom_b0 (j := 76) rfl) (byt_of hR_wordFrom_b0 (j := 77) rfl) (byt_of hR_wordFrom_b0 (j := 78) rfl) rfl
theorem dR_wordFrom_79 : decode (mcc mR_wordFrom) 79 = .ok (.iconst 0, 1) := o3 (byt_of hR_wordFrom_b0 (j := 79) rfl)
theorem dR_wordFrom_80 : decode (mcc mR_wordFrom) 80 = .ok (.istore 4, 2) := o54 (a := 4) (byt_of hR_wordFrom_b0 (j := 80) rfl) (byt_of hR_wordFrom_b0 (j := 81) rfl)
theorem dR_wordFrom_82 : decode (mcc mR_wordFrom) 82 = .ok (.iinc 5 1, 3) := o132 (a := 5) (b := 1) (byt_of hR_wordFrom_b0 (j := 82) rfl) (byt_of hR_wordFrom_b0 (j := 83) rfl) (byt_of hR_wordFrom_b0 (j := 84) rfl) rfl
theorem dR_wordFrom_85 : decode (mcc mR_wordFrom) 85 = .ok (.goto (-59), 3) := o167 (a := 255) (b := 197) (byt_of hR_wordFrom_b0 (j := 85) rfl) (byt_of hR_wordFrom_b0 (j := 86) rfl) (byt_of hR_wordFrom_b0 (j := 87) rfl) rfl
theorem dR_wordFrom_88 : decode (mcc mR_wordFrom) 88 = .ok (.iload 4, 2) := o21 (a := 4) (byt_of hR_wordFrom_b0 (j := 88) rfl) (byt_of hR_wordFrom_b0 (j := 89) rfl)
theorem dR_wordFrom_90 : decode (mcc mR_wordFrom) 90 = .ok (.ifCond .eq 5, 3) := o153 (a := 0) (b := 5) (byt_of hR_wordFrom_b0 (j := 90) rfl) (byt_of hR_wordFrom_b0 (j := 91) rfl) (byt_of hR_wordFrom_b0 (j := 92) rfl) rfl
theorem dR_wordFrom_93 : decode (mcc mR_wordFrom) 93 = .ok (.iload_n 3, 1) := o29 (byt_of hR_wordFrom_b0 (j := 93) rfl)
theorem dR_wordFrom_94 : decode (mcc mR_wordFrom) 94 = .ok (.ireturn, 1) := o172 (byt_of hR_wordFrom_b0 (j := 94) rfl)
theorem dR_wordFrom_95 : decode (mcc mR_wordFrom) 95 = .ok (.iinc 3 1, 3) := o132 (a := 3) (b := 1) (byt_of hR_wordFrom_b0 (j := 95) rfl) (byt_of hR_wordFrom_b0 (j := 96) rfl) (byt_of hR_wordFrom_b0 (j := 97) rfl) rfl
def bR_wordFrom_b1 : List Nat := [3, 1, 167, 255, 160, 16, 12, 172]
theorem hR_wordFrom_b1 : BL (mcc mR_wordFrom) 96 bR_wordFrom_b1 := by decide +kernel
theorem dR_wordFrom_98 : decode (mcc mR_wordFrom) 98 = .ok (.goto (-96), 3) := o167 (a := 255) (b := 160) (byt_of hR_wordFrom_b1 (j := 2) rfl) (byt_of hR_wordFrom_b1 (j := 3) rfl) (byt_of hR_wordFrom_b1 (j := 4) rfl) rfl
theorem dR_wordFrom_101 : decode (mcc mR_wordFrom) 101 = .ok (.bipush 12, 2) := o16 (a := 12) (byt_of hR_wordFrom_b1 (j := 5) rfl) (byt_of hR_wordFrom_b1 (j := 6) rfl) rfl
theorem dR_wordFrom_103 : decode (mcc mR_wordFrom) 103 = .ok (.ireturn, 1) := o172 (byt_of hR_wordFrom_b1 (j := 7) rfl)
def bR_next_b0 : List Nat := [42, 180, 0, 171, 42, 180, 0, 137, 162, 0, 44, 42, 180, 0, 68, 42, 180, 0, 171, 46, 16, 32, 159, 0, 17, 42, 180, 0, 68, 42, 180, 0, 171, 46, 16, 10, 160, 0, 16, 42, 89, 180, 0, 171, 4, 96, 181, 0, 171, 167, 255, 207, 42, 42, 180, 0, 171, 181, 0, 174, 42, 3, 181, 0, 177, 42, 3, 181, 0, 180, 42, 180, 0, 171, 42, 180, 0, 137, 160, 0, 4, 177, 42, 180, 0, 68, 42, 180, 0, 171, 46, 60, 27, 16, 97, 16, 122, 184, 0, 151, 153, 0]
theorem hR_next_b0 : BL (mcc mR_next) 0 bR_next_b0 := by decide +kernel
theorem dR_next_0 : decode (mcc mR_next) 0 = .ok (.aload_n 0, 1) := o42 (byt_of hR_next_b0 (j := 0) rfl)
theorem dR_next_1 : decode (mcc mR_next) 1 = .ok (.getfield 171, 3) := o180 (a := 0) (b := 171) (byt_of hR_next_b0 (j := 1) rfl) (byt_of hR_next_b0 (j := 2) rfl) (byt_of hR_next_b0 (j := 3) rfl) rfl
theorem dR_next_4 : decode (mcc mR_next) 4 = .ok (.aload_n 0, 1) := o42 (byt_of hR_next_b0 (j := 4) rfl)
theorem dR_next_5 : decode (mcc mR_next) 5 = .ok (.getfield 137, 3) := o180 (a := 0) (b := 137) (byt_of hR_next_b0 (j := 5) rfl) (byt_of hR_next_b0 (j := 6) rfl) (byt_of hR_next_b0 (j := 7) rfl) rfl
theorem dR_next_8 : decode (mcc mR_next) 8 = .ok (.if_icmp .ge 44, 3) := o162 (a := 0) (b := 44) (byt_of hR_next_b0 (j := 8) rfl) (byt_of hR_next_b0 (j := 9) rfl) (byt_of hR_next_b0 (j := 10) rfl) rfl
theorem dR_next_11 : decode (mcc mR_next) 11 = .ok (.aload_n 0, 1) := o42 (byt_of hR_next_b0 (j := 11) rfl)
theorem dR_next_12 : decode (mcc mR_next) 12 = .ok (.getfield 68, 3) := o180 (a := 0) (b := 68) (byt_of hR_next_b0 (j := 12) rfl) (byt_of hR_next_b0 (j := 13) rfl) (byt_of hR_next_b0 (j := 14) rfl) rfl
theorem dR_next_15 : decode (mcc mR_next) 15 = .ok (.aload_n 0, 1) := o42 (byt_of hR_next_b0 (j := 15) rfl)
theorem dR_next_16 : decode (mcc mR_next) 16 = .ok (.getfield 171, 3) := o180 (a := 0) (b := 171) (byt_of hR_next_b0 (j := 16) rfl) (byt_of hR_next_b0 (j := 17) rfl) (byt_of hR_next_b0 (j := 18) rfl) rfl
theorem dR_next_19 : decode (mcc mR_next) 19 = .ok (.iaload, 1) := o46 (byt_of hR_next_b0 (j := 19) rfl)
theorem dR_next_20 : decode (mcc mR_next) 20 = .ok (.bipush 32, 2) := o16 (a := 32) (byt_of hR_next_b0 (j := 20) rfl) (byt_of hR_next_b0 (j := 21) rfl) rfl
theorem dR_next_22 : decode (mcc mR_next) 22 = .ok (.if_icmp .eq 17, 3) := o159 (a := 0) (b := 17) (byt_of hR_next_b0 (j := 22) rfl) (byt_of hR_next_b0 (j := 23) rfl) (byt_of hR_next_b0 (j := 24) rfl) rfl
theorem dR_next_25 : decode (mcc mR_next) 25 = .ok (.aload_n 0, 1) := o42 (byt_of hR_next_b0 (j := 25) rfl)
theorem dR_next_26 : decode (mcc mR_next) 26 = .ok (.getfield 68, 3) := o180 (a := 0) (b := 68) (byt_of hR_next_b0 (j := 26) rfl) (byt_of hR_next_b0 (j := 27) rfl) (byt_of hR_next_b0 (j := 28) rfl) rfl
theorem dR_next_29 : decode (mcc mR_next) 29 = .ok (.aload_n 0, 1) := o42 (byt_of hR_next_b0 (j := 29) rfl)
theorem dR_next_30 : decode (mcc mR_next) 30 = .ok (.getfield 171, 3) := o180 (a := 0) (b := 171) (byt_of hR_next_b0 (j := 30) rfl) (byt_of hR_next_b0 (j := 31) rfl) (byt_of hR_next_b0 (j := 32) rfl) rfl
theorem dR_next_33 : decode (mcc mR_next) 33 = .ok (.iaload, 1) := o46 (byt_of hR_next_b0 (j := 33) rfl)
theorem dR_next_34 : decode (mcc mR_next) 34 = .ok (.bipush 10, 2) := o16 (a := 10) (byt_of hR_next_b0 (j := 34) rfl) (byt_of hR_next_b0 (j := 35) rfl) rfl
theorem dR_next_36 : decode (mcc mR_next) 36 = .ok (.if_icmp .ne 16, 3) := o160 (a := 0) (b := 16) (byt_of hR_next_b0 (j := 36) rfl) (byt_of hR_next_b0 (j := 37) rfl) (byt_of hR_next_b0 (j := 38) rfl) rfl
theorem dR_next_39 : decode (mcc mR_next) 39 = .ok (.aload_n 0, 1) := o42 (byt_of hR_next_b0 (j := 39) rfl)
theorem dR_next_40 : decode (mcc mR_next) 40 = .ok (.dup, 1) := o89 (byt_of hR_next_b0 (j := 40) rfl)
theorem dR_next_41 : decode (mcc mR_next) 41 = .ok (.getfield 171, 3) := o180 (a := 0) (b := 171) (byt_of hR_next_b0 (j := 41) rfl) (byt_of hR_next_b0 (j := 42) rfl) (byt_of hR_next_b0 (j := 43) rfl) rfl
theorem dR_next_44 : decode (mcc mR_next) 44 = .ok (.iconst 1, 1) := o4 (byt_of hR_next_b0 (j := 44) rfl)
theorem dR_next_45 : decode (mcc mR_next) 45 = .ok (.iadd, 1) := o96 (byt_of hR_next_b0 (j := 45) rfl)
theorem dR_next_46 : decode (mcc mR_next) 46 = .ok (.putfield 171, 3) := o181 (a := 0) (b := 171) (byt_of hR_next_b0 (j := 46) rfl) (byt_of hR_next_b0 (j := 47) rfl) (byt_of hR_next_b0 (j := 48) rfl) rfl
theorem dR_next_49 : decode (mcc mR_next) 49 = .ok (.goto (-49), 3) := o167 (a := 255) (b := 207) (byt_of hR_next_b0 (j := 49) rfl) (byt_of hR_next_b0 (j := 50) rfl) (byt_of hR_next_b0 (j := 51) rfl) rfl
theorem dR_next_52 : decode (mcc mR_next) 52 = .ok (.aload_n 0, 1) := o42 (byt_of hR_next_b0 (j := 52) rfl)
theorem dR_next_53 : decode (mcc mR_next) 53 = .ok (.aload_n 0, 1) := o42 (byt_of hR_next_b0 (j := 53) rfl)
theorem dR_next_54 : decode (mcc mR_next) 54 = .ok (.getfield 171, 3) := o180 (a := 0) (b := 171) (byt_of hR_next_b0 (j := 54) rfl) (byt_of hR_next_b0 (j := 55) rfl) (byt_of hR_next_b0 (j := 56) rfl) rfl
theorem dR_next_57 : decode (mcc mR_next) 57 = .ok (.putfield 174, 3) := o181 (a := 0) (b := 174) (byt_of hR_next_b0 (j := 57) rfl) (byt_of hR_next_b0 (j := 58) rfl) (byt_of hR_next_b0 (j := 59) rfl) rfl
theorem dR_next_60 : decode (mcc mR_next) 60 = .ok (.aload_n 0, 1) := o42 (byt_of hR_next_b0 (j := 60) rfl)
theorem dR_next_61 : decode (mcc mR_next) 61 = .ok (.iconst 0, 1) := o3 (byt_of hR_next_b0 (j := 61) rfl)
theorem dR_next_62 : decode (mcc mR_next) 62 = .ok (.putfield 177, 3) := o181 (a := 0) (b := 177) (byt_of hR_next_b0 (j := 62) rfl) (byt_of hR_next_b0 (j := 63) rfl) (byt_of hR_next_b0 (j := 64) rfl) rfl
theorem dR_next_65 : decode (mcc mR_next) 65 = .ok (.aload_n 0, 1) := o42 (byt_of hR_next_b0 (j := 65) rfl)
theorem dR_next_66 : decode (mcc mR_next) 66 = .ok (.iconst 0, 1) := o3 (byt_of hR_next_b0 (j := 66) rfl)
theorem dR_next_67 : decode (mcc mR_next) 67 = .ok (.putfield 180, 3) := o181 (a := 0) (b := 180) (byt_of hR_next_b0 (j := 67) rfl) (byt_of hR_next_b0 (j := 68) rfl) (byt_of hR_next_b0 (j := 69) rfl) rfl
theorem dR_next_70 : decode (mcc mR_next) 70 = .ok (.aload_n 0, 1) := o42 (byt_of hR_next_b0 (j := 70) rfl)
theorem dR_next_71 : decode (mcc mR_next) 71 = .ok (.getfield 171, 3) := o180 (a := 0) (b := 171) (byt_of hR_next_b0 (j := 71) rfl) (byt_of hR_next_b0 (j := 72) rfl) (byt_of hR_next_b0 (j := 73) rfl) rfl
theorem dR_next_74 : decode (mcc mR_next) 74 = .ok (.aload_n 0, 1) := o42 (byt_of hR_next_b0 (j := 74) rfl)
theorem dR_next_75 : decode (mcc mR_next) 75 = .ok (.getfield 137, 3) := o180 (a := 0) (b := 137) (byt_of hR_next_b0 (j := 75) rfl) (byt_of hR_next_b0 (j := 76) rfl) (byt_of hR_next_b0 (j := 77) rfl) rfl
theorem dR_next_78 : decode (mcc mR_next) 78 = .ok (.if_icmp .ne 4, 3) := o160 (a := 0) (b := 4) (byt_of hR_next_b0 (j := 78) rfl) (byt_of hR_next_b0 (j := 79) rfl) (byt_of hR_next_b0 (j := 80) rfl) rfl
theorem dR_next_81 : decode (mcc mR_next) 81 = .ok (.return_, 1) := o177 (byt_of hR_next_b0 (j := 81) rfl)
theorem dR_next_82 : decode (mcc mR_next) 82 = .ok (.aload_n 0, 1) := o42 (byt_of hR_next_b0 (j := 82) rfl)
theorem dR_next_83 : decode (mcc mR_next) 83 = .ok (.getfield 68, 3) := o180 (a := 0) (b := 68) (byt_of hR_next_b0 (j := 83) rfl) (byt_of hR_next_b0 (j := 84) rfl) (byt_of hR_next_b0 (j := 85) rfl) rfl
theorem dR_next_86 : decode (mcc mR_next) 86 = .ok (.aload_n 0, 1) := o42 (byt_of hR_next_b0 (j := 86) rfl)
theorem dR_next_87 : decode (mcc mR_next) 87 = .ok (.getfield 171, 3) := o180 (a := 0) (b := 171) (byt_of hR_next_b0 (j := 87) rfl) (byt_of hR_next_b0 (j := 88) rfl) (byt_of hR_next_b0 (j := 89) rfl) rfl
theorem dR_next_90 : decode (mcc mR_next) 90 = .ok (.iaload, 1) := o46 (byt_of hR_next_b0 (j := 90) rfl)
theorem dR_next_91 : decode (mcc mR_next) 91 = .ok (.istore_n 1, 1) := o60 (byt_of hR_next_b0 (j := 91) rfl)
theorem dR_next_92 : decode (mcc mR_next) 92 = .ok (.iload_n 1, 1) := o27 (byt_of hR_next_b0 (j := 92) rfl)
theorem dR_next_93 : decode (mcc mR_next) 93 = .ok (.bipush 97, 2) := o16 (a := 97) (byt_of hR_next_b0 (j := 93) rfl) (byt_of hR_next_b0 (j := 94) rfl) rfl
theorem dR_next_95 : decode (mcc mR_next) 95 = .ok (.bipush 122, 2) := o16 (a := 122) (byt_of hR_next_b0 (j := 95) rfl) (byt_of hR_next_b0 (j := 96) rfl) rfl
def bR_next_b1 : List Nat := [122, 184, 0, 151, 153, 0, 117, 42, 180, 0, 171, 42, 180, 0, 137, 162, 0, 35, 42, 180, 0, 68, 42, 180, 0, 171, 46, 16, 97, 16, 122, 184, 0, 151, 153, 0, 16, 42, 89, 180, 0, 171, 4, 96, 181, 0, 171, 167, 255, 216, 42, 42, 180, 0, 174, 42, 180, 0, 171, 182, 0, 183, 61, 42, 28, 6, 162, 0, 7, 6, 167, 0, 29, 28, 16, 9, 162, 0, 7, 5, 167, 0, 19, 28, 16, 12, 160, 0, 7, 2, 167, 0, 9, 7, 28, 96, 16, 9, 100, 181, 0, 177]
theorem hR_next_b1 : BL (mcc mR_next) 96 bR_next_b1 := by decide +kernel
theorem dR_next_97 : decode (mcc mR_next) 97 = .ok (.invokestatic 151, 3) := o184 (a := 0) (b := 151) (byt_of hR_next_b1 (j := 1) rfl) (byt_of hR_next_b1 (j := 2) rfl) (byt_of hR_next_b1 (j := 3) rfl) rfl
theorem dR_next_100 : decode (mcc mR_next) 100 = .ok (.ifCond .eq 117, 3) := o153 (a := 0) (b := 117) (byt_of hR_next_b1 (j := 4) rfl) (byt_of hR_next_b1 (j := 5) rfl) (byt_of hR_next_b1 (j := 6) rfl) rfl
theorem dR_next_103 : decode (mcc mR_next) 103 = .ok (.aload_n 0, 1) := o42 (byt_of hR_next_b1 (j := 7) rfl)
theorem dR_next_104 : decode (mcc mR_next) 104 = .ok (.getfield 171, 3) := o180 (a := 0) (b := 171) (byt_of hR_next_b1 (j := 8) rfl) (byt_of hR_next_b1 (j := 9) rfl) (byt_of hR_next_b1 (j := 10) rfl) rfl
theorem dR_next_107 : decode (mcc mR_next) 107 = .ok (.aload_n 0, 1) := o42 (byt_of hR_next_b1 (j := 11) rfl)
theorem dR_next_108 : decode (mcc mR_next) 108 = .ok (.getfield 137, 3) := o180 (a := 0) (b := 137) (byt_of hR_next_b1 (j := 12) rfl) (byt_of hR_next_b1 (j := 13) rfl) (byt_of hR_next_b1 (j := 14) rfl) rfl
theorem dR_next_111 : decode (mcc mR_next) 111 = .ok (.if_icmp .ge 35, 3) := o162 (a := 0) (b := 35) (byt_of hR_next_b1 (j := 15) rfl) (byt_of hR_next_b1 (j := 16) rfl) (byt_of hR_next_b1 (j := 17) rfl) rfl
theorem dR_next_114 : decode (mcc mR_next) 114 = .ok (.aload_n 0, 1) := o42 (byt_of hR_next_b1 (j := 18) rfl)
theorem dR_next_115 : decode (mcc mR_next) 115 = .ok (.getfield 68, 3) := o180 (a := 0) (b := 68) (byt_of hR_next_b1 (j := 19) rfl) (byt_of hR_next_b1 (j := 20) rfl) (byt_of hR_next_b1 (j := 21) rfl) rfl
theorem dR_next_118 : decode (mcc mR_next) 118 = .ok (.aload_n 0, 1) := o42 (byt_of hR_next_b1 (j := 22) rfl)
theorem dR_next_119 : decode (mcc mR_next) 119 = .ok (.getfield 171, 3) := o180 (a := 0) (b := 171) (byt_of hR_next_b1 (j := 23) rfl) (byt_of hR_next_b1 (j := 24) rfl) (byt_of hR_next_b1 (j := 25) rfl) rfl
theorem dR_next_122 : decode (mcc mR_next) 122 = .ok (.iaload, 1) := o46 (byt_of hR_next_b1 (j := 26) rfl)
theorem dR_next_123 : decode (mcc mR_next) 123 = .ok (.bipush 97, 2) := o16 (a := 97) (byt_of hR_next_b1 (j := 27) rfl) (byt_of hR_next_b1 (j := 28) rfl) rfl
theorem dR_next_125 : decode (mcc mR_next) 125 = .ok (.bipush 122, 2) := o16 (a := 122) (byt_of hR_next_b1 (j := 29) rfl) (byt_of hR_next_b1 (j := 30) rfl) rfl
theorem dR_next_127 : decode (mcc mR_next) 127 = .ok (.invokestatic 151, 3) := o184 (a := 0) (b := 151) (byt_of hR_next_b1 (j := 31) rfl) (byt_of hR_next_b1 (j := 32) rfl) (byt_of hR_next_b1 (j := 33) rfl) rfl
theorem dR_next_130 : decode (mcc mR_next) 130 = .ok (.ifCond .eq 16, 3) := o153 (a := 0) (b := 16) (byt_of hR_next_b1 (j := 34) rfl) (byt_of hR_next_b1 (j := 35) rfl) (byt_of hR_next_b1 (j := 36) rfl) rfl
theorem dR_next_133 : decode (mcc mR_next) 133 = .ok (.aload_n 0, 1) := o42 (byt_of hR_next_b1 (j := 37) rfl)
theorem dR_next_134 : decode (mcc mR_next) 134 = .ok (.dup, 1) := o89 (byt_of hR_next_b1 (j := 38) rfl)
theorem dR_next_135 : decode (mcc mR_next) 135 = .ok (.getfield 171, 3) := o180 (a := 0) (b := 171) (byt_of hR_next_b1 (j := 39) rfl) (byt_of hR_next_b1 (j := 40) rfl) (byt_of hR_next_b1 (j := 41) rfl) rfl
theorem dR_next_138 : decode (mcc mR_next) 138 = .ok (.iconst 1, 1) := o4 (byt_of hR_next_b1 (j := 42) rfl)
theorem dR_next_139 : decode (mcc mR_next) 139 = .ok (.iadd, 1) := o96 (byt_of hR_next_b1 (j := 43) rfl)
theorem dR_next_140 : decode (mcc mR_next) 140 = .ok (.putfield 171, 3) := o181 (a := 0) (b := 171) (byt_of hR_next_b1 (j := 44) rfl) (byt_of hR_next_b1 (j := 45) rfl) (byt_of hR_next_b1 (j := 46) rfl) rfl
theorem dR_next_143 : decode (mcc mR_next) 143 = .ok (.goto (-40), 3) := o167 (a := 255) (b := 216) (byt_of hR_next_b1 (j := 47) rfl) (byt_of hR_next_b1 (j := 48) rfl) (byt_of hR_next_b1 (j := 49) rfl) rfl
theorem dR_next_146 : decode (mcc mR_next) 146 = .ok (.aload_n 0, 1) := o42 (byt_of hR_next_b1 (j := 50) rfl)
theorem dR_next_147 : decode (mcc mR_next) 147 = .ok (.aload_n 0, 1) := o42 (byt_of hR_next_b1 (j := 51) rfl)
theorem dR_next_148 : decode (mcc mR_next) 148 = .ok (.getfield 174, 3) := o180 (a := 0) (b := 174) (byt_of hR_next_b1 (j := 52) rfl) (byt_of hR_next_b1 (j := 53) rfl) (byt_of hR_next_b1 (j := 54) rfl) rfl
theorem dR_next_151 : decode (mcc mR_next) 151 = .ok (.aload_n 0, 1) := o42 (byt_of hR_next_b1 (j := 55) rfl)
theorem dR_next_152 : decode (mcc mR_next) 152 = .ok (.getfield 171, 3) := o180 (a := 0) (b := 171) (byt_of hR_next_b1 (j := 56) rfl) (byt_of hR_next_b1 (j := 57) rfl) (byt_of hR_next_b1 (j := 58) rfl) rfl
theorem dR_next_155 : decode (mcc mR_next) 155 = .ok (.invokevirtual 183, 3) := o182 (a := 0) (b := 183) (byt_of hR_next_b1 (j := 59) rfl) (byt_of hR_next_b1 (j := 60) rfl) (byt_of hR_next_b1 (j := 61) rfl) rfl
theorem dR_next_158 : decode (mcc mR_next) 158 = .ok (.istore_n 2, 1) := o61 (byt_of hR_next_b1 (j := 62) rfl)
theorem dR_next_159 : decode (mcc mR_next) 159 = .ok (.aload_n 0, 1) := o42 (byt_of hR_next_b1 (j := 63) rfl)
theorem dR_next_160 : decode (mcc mR_next) 160 = .ok (.iload_n 2, 1) := o28 (byt_of hR_next_b1 (j := 64) rfl)
theorem dR_next_161 : decode (mcc mR_next) 161 = .ok (.iconst 3, 1) := o6 (byt_of hR_next_b1 (j := 65) rfl)
theorem dR_next_162 : decode (mcc mR_next) 162 = .ok (.if_icmp .ge 7, 3) := o162 (a := 0) (b := 7) (byt_of hR_next_b1 (j := 66) rfl) (byt_of hR_next_b1 (j := 67) rfl) (byt_of hR_next_b1 (j := 68) rfl) rfl
theorem dR_next_165 : decode (mcc mR_next) 165 = .ok (.iconst 3, 1) := o6 (byt_of hR_next_b1 (j := 69) rfl)
theorem dR_next_166 : decode (mcc mR_next) 166 = .ok (.goto 29, 3) := o167 (a := 0) (b := 29) (byt_of hR_next_b1 (j := 70) rfl) (byt_of hR_next_b1 (j := 71) rfl) (byt_of hR_next_b1 (j := 72) rfl) rfl
theorem dR_next_169 : decode (mcc mR_next) 169 = .ok (.iload_n 2, 1) := o28 (byt_of hR_next_b1 (j := 73) rfl)
theorem dR_next_170 : decode (mcc mR_next) 170 = .ok (.bipush 9, 2) := o16 (a := 9) (byt_of hR_next_b1 (j := 74) rfl) (byt_of hR_next_b1 (j := 75) rfl) rfl
theorem dR_next_172 : decode (mcc mR_next) 172 = .ok (.if_icmp .ge 7, 3) := o162 (a := 0) (b := 7) (byt_of hR_next_b1 (j := 76) rfl) (byt_of hR_next_b1 (j := 77) rfl) (byt_of hR_next_b1 (j := 78) rfl) rfl
theorem dR_next_175 : decode (mcc mR_next) 175 = .ok (.iconst 2, 1) := o5 (byt_of hR_next_b1 (j := 79) rfl)
theorem dR_next_176 : decode (mcc mR_next) 176 = .ok (.goto 19, 3) := o167 (a := 0) (b := 19) (byt_of hR_next_b1 (j := 80) rfl) (byt_of hR_next_b1 (j := 81) rfl) (byt_of hR_next_b1 (j := 82) rfl) rfl
theorem dR_next_179 : decode (mcc mR_next) 179 = .ok (.iload_n 2, 1) := o28 (byt_of hR_next_b1 (j := 83) rfl)
theorem dR_next_180 : decode (mcc mR_next) 180 = .ok (.bipush 12, 2) := o16 (a := 12) (byt_of hR_next_b1 (j := 84) rfl) (byt_of hR_next_b1 (j := 85) rfl) rfl
theorem dR_next_182 : decode (mcc mR_next) 182 = .ok (.if_icmp .ne 7, 3) := o160 (a := 0) (b := 7) (byt_of hR_next_b1 (j := 86) rfl) (byt_of hR_next_b1 (j := 87) rfl) (byt_of hR_next_b1 (j := 88) rfl) rfl
theorem dR_next_185 : decode (mcc mR_next) 185 = .ok (.iconst (-1), 1) := o2 (byt_of hR_next_b1 (j := 89) rfl)
theorem dR_next_186 : decode (mcc mR_next) 186 = .ok (.goto 9, 3) := o167 (a := 0) (b := 9) (byt_of hR_next_b1 (j := 90) rfl) (byt_of hR_next_b1 (j := 91) rfl) (byt_of hR_next_b1 (j := 92) rfl) rfl
theorem dR_next_189 : decode (mcc mR_next) 189 = .ok (.iconst 4, 1) := o7 (byt_of hR_next_b1 (j := 93) rfl)
theorem dR_next_190 : decode (mcc mR_next) 190 = .ok (.iload_n 2, 1) := o28 (byt_of hR_next_b1 (j := 94) rfl)
theorem dR_next_191 : decode (mcc mR_next) 191 = .ok (.iadd, 1) := o96 (byt_of hR_next_b1 (j := 95) rfl)
def bR_next_b2 : List Nat := [16, 9, 100, 181, 0, 177, 42, 28, 6, 162, 0, 7, 28, 167, 0, 6, 28, 6, 100, 181, 0, 180, 167, 0, 189, 27, 16, 48, 16, 57, 184, 0, 151, 153, 0, 101, 3, 61, 42, 180, 0, 171, 42, 180, 0, 137, 162, 0, 71, 42, 180, 0, 68, 42, 180, 0, 171, 46, 16, 48, 16, 57, 184, 0, 151, 153, 0, 52, 42, 28, 7, 162, 0, 26, 16, 10, 42, 180, 0, 180, 104, 42, 180, 0, 68, 42, 180, 0, 171, 46, 96, 16, 48, 100, 167, 0, 4, 3, 181, 0, 180, 132]
theorem hR_next_b2 : BL (mcc mR_next) 192 bR_next_b2 := by decide +kernel
theorem dR_next_192 : decode (mcc mR_next) 192 = .ok (.bipush 9, 2) := o16 (a := 9) (byt_of hR_next_b2 (j := 0) rfl) (byt_of hR_next_b2 (j := 1) rfl) rfl
theorem dR_next_194 : decode (mcc mR_next) 194 = .ok (.isub, 1) := o100 (byt_of hR_next_b2 (j := 2) rfl)
theorem dR_next_195 : decode (mcc mR_next) 195 = .ok (.putfield 177, 3) := o181 (a := 0) (b := 177) (byt_of hR_next_b2 (j := 3) rfl) (byt_of hR_next_b2 (j := 4) rfl) (byt_of hR_next_b2 (j := 5) rfl) rfl
theorem dR_next_198 : decode (mcc mR_next) 198 = .ok (.aload_n 0, 1) := o42 (byt_of hR_next_b2 (j := 6) rfl)
theorem dR_next_199 : decode (mcc mR_next) 199 = .ok (.iload_n 2, 1) := o28 (byt_of hR_next_b2 (j := 7) rfl)
theorem dR_next_200 : decode (mcc mR_next) 200 = .ok (.iconst 3, 1) := o6 (byt_of hR_next_b2 (j := 8) rfl)
theorem dR_next_201 : decode (mcc mR_next) 201 = .ok (.if_icmp .ge 7, 3) := o162 (a := 0) (b := 7) (byt_of hR_next_b2 (j := 9) rfl) (byt_of hR_next_b2 (j := 10) rfl) (byt_of hR_next_b2 (j := 11) rfl) rfl
theorem dR_next_204 : decode (mcc mR_next) 204 = .ok (.iload_n 2, 1) := o28 (byt_of hR_next_b2 (j := 12) rfl)
theorem dR_next_205 : decode (mcc mR_next) 205 = .ok (.goto 6, 3) := o167 (a := 0) (b := 6) (byt_of hR_next_b2 (j := 13) rfl) (byt_of hR_next_b2 (j := 14) rfl) (byt_of hR_next_b2 (j := 15) rfl) rfl
theorem dR_next_208 : decode (mcc mR_next) 208 = .ok (.iload_n 2, 1) := o28 (byt_of hR_next_b2 (j := 16) rfl)
theorem dR_next_209 : decode (mcc mR_next) 209 = .ok (.iconst 3, 1) := o6 (byt_of hR_next_b2 (j := 17) rfl)
theorem dR_next_210 : decode (mcc mR_next) 210 = .ok (.isub, 1) := o100 (byt_of hR_next_b2 (j := 18) rfl)
theorem dR_next_211 : decode (mcc mR_next) 211 = .ok (.putfield 180, 3) := o181 (a := 0) (b := 180) (byt_of hR_next_b2 (j := 19) rfl) (byt_of hR_next_b2 (j := 20) rfl) (byt_of hR_next_b2 (j := 21) rfl) rfl
theorem dR_next_214 : decode (mcc mR_next) 214 = .ok (.goto 189, 3) := o167 (a := 0) (b := 189) (byt_of hR_next_b2 (j := 22) rfl) (byt_of hR_next_b2 (j := 23) rfl) (byt_of hR_next_b2 (j := 24) rfl) rfl
theorem dR_next_217 : decode (mcc mR_next) 217 = .ok (.iload_n 1, 1) := o27 (byt_of hR_next_b2 (j := 25) rfl)
theorem dR_next_218 : decode (mcc mR_next) 218 = .ok (.bipush 48, 2) := o16 (a := 48) (byt_of hR_next_b2 (j := 26) rfl) (byt_of hR_next_b2 (j := 27) rfl) rfl
theorem dR_next_220 : decode (mcc mR_next) 220 = .ok (.bipush 57, 2) := o16 (a := 57) (byt_of hR_next_b2 (j := 28) rfl) (byt_of hR_next_b2 (j := 29) rfl) rfl
theorem dR_next_222 : decode (mcc mR_next) 222 = .ok (.invokestatic 151, 3) := o184 (a := 0) (b := 151) (byt_of hR_next_b2 (j := 30) rfl) (byt_of hR_next_b2 (j := 31) rfl) (byt_of hR_next_b2 (j := 32) rfl) rfl
theorem dR_next_225 : decode (mcc mR_next) 225 = .ok (.ifCond .eq 101, 3) := o153 (a := 0) (b := 101) (byt_of hR_next_b2 (j := 33) rfl) (byt_of hR_next_b2 (j := 34) rfl) (byt_of hR_next_b2 (j := 35) rfl) rfl
theorem dR_next_228 : decode (mcc mR_next) 228 = .ok (.iconst 0, 1) := o3 (byt_of hR_next_b2 (j := 36) rfl)
theorem dR_next_229 : decode (mcc mR_next) 229 = .ok (.istore_n 2, 1) := o61 (byt_of hR_next_b2 (j := 37) rfl)
theorem dR_next_230 : decode (mcc mR_next) 230 = .ok (.aload_n 0, 1) := o42 (byt_of hR_next_b2 (j := 38) rfl)
theorem dR_next_231 : decode (mcc mR_next) 231 = .ok (.getfield 171, 3) := o180 (a := 0) (b := 171) (byt_of hR_next_b2 (j := 39) rfl) (byt_of hR_next_b2 (j := 40) rfl) (byt_of hR_next_b2 (j := 41) rfl) rfl
theorem dR_next_234 : decode (mcc mR_next) 234 = .ok (.aload_n 0, 1) := o42 (byt_of hR_next_b2 (j := 42) rfl)
theorem dR_next_235 : decode (mcc mR_next) 235 = .ok (.getfield 137, 3) := o180 (a := 0) (b := 137) (byt_of hR_next_b2 (j := 43) rfl) (byt_of hR_next_b2 (j := 44) rfl) (byt_of hR_next_b2 (j := 45) rfl) rfl
theorem dR_next_238 : decode (mcc mR_next) 238 = .ok (.if_icmp .ge 71, 3) := o162 (a := 0) (b := 71) (byt_of hR_next_b2 (j := 46) rfl) (byt_of hR_next_b2 (j := 47) rfl) (byt_of hR_next_b2 (j := 48) rfl) rfl
theorem dR_next_241 : decode (mcc mR_next) 241 = .ok (.aload_n 0, 1) := o42 (byt_of hR_next_b2 (j := 49) rfl)
theorem dR_next_242 : decode (mcc mR_next) 242 = .ok (.getfield 68, 3) := o180 (a := 0) (b := 68) (byt_of hR_next_b2 (j := 50) rfl) (byt_of hR_next_b2 (j := 51) rfl) (byt_of hR_next_b2 (j := 52) rfl) rfl
theorem dR_next_245 : decode (mcc mR_next) 245 = .ok (.aload_n 0, 1) := o42 (byt_of hR_next_b2 (j := 53) rfl)
theorem dR_next_246 : decode (mcc mR_next) 246 = .ok (.getfield 171, 3) := o180 (a := 0) (b := 171) (byt_of hR_next_b2 (j := 54) rfl) (byt_of hR_next_b2 (j := 55) rfl) (byt_of hR_next_b2 (j := 56) rfl) rfl
theorem dR_next_249 : decode (mcc mR_next) 249 = .ok (.iaload, 1) := o46 (byt_of hR_next_b2 (j := 57) rfl)
theorem dR_next_250 : decode (mcc mR_next) 250 = .ok (.bipush 48, 2) := o16 (a := 48) (byt_of hR_next_b2 (j := 58) rfl) (byt_of hR_next_b2 (j := 59) rfl) rfl
theorem dR_next_252 : decode (mcc mR_next) 252 = .ok (.bipush 57, 2) := o16 (a := 57) (byt_of hR_next_b2 (j := 60) rfl) (byt_of hR_next_b2 (j := 61) rfl) rfl
theorem dR_next_254 : decode (mcc mR_next) 254 = .ok (.invokestatic 151, 3) := o184 (a := 0) (b := 151) (byt_of hR_next_b2 (j := 62) rfl) (byt_of hR_next_b2 (j := 63) rfl) (byt_of hR_next_b2 (j := 64) rfl) rfl
theorem dR_next_257 : decode (mcc mR_next) 257 = .ok (.ifCond .eq 52, 3) := o153 (a := 0) (b := 52) (byt_of hR_next_b2 (j := 65) rfl) (byt_of hR_next_b2 (j := 66) rfl) (byt_of hR_next_b2 (j := 67) rfl) rfl
theorem dR_next_260 : decode (mcc mR_next) 260 = .ok (.aload_n 0, 1) := o42 (byt_of hR_next_b2 (j := 68) rfl)
theorem dR_next_261 : decode (mcc mR_next) 261 = .ok (.iload_n 2, 1) := o28 (byt_of hR_next_b2 (j := 69) rfl)
theorem dR_next_262 : decode (mcc mR_next) 262 = .ok (.iconst 4, 1) := o7 (byt_of hR_next_b2 (j := 70) rfl)
theorem dR_next_263 : decode (mcc mR_next) 263 = .ok (.if_icmp .ge 26, 3) := o162 (a := 0) (b := 26) (byt_of hR_next_b2 (j := 71) rfl) (byt_of hR_next_b2 (j := 72) rfl) (byt_of hR_next_b2 (j := 73) rfl) rfl
theorem dR_next_266 : decode (mcc mR_next) 266 = .ok (.bipush 10, 2) := o16 (a := 10) (byt_of hR_next_b2 (j := 74) rfl) (byt_of hR_next_b2 (j := 75) rfl) rfl
theorem dR_next_268 : decode (mcc mR_next) 268 = .ok (.aload_n 0, 1) := o42 (byt_of hR_next_b2 (j := 76) rfl)
theorem dR_next_269 : decode (mcc mR_next) 269 = .ok (.getfield 180, 3) := o180 (a := 0) (b := 180) (byt_of hR_next_b2 (j := 77) rfl) (byt_of hR_next_b2 (j := 78) rfl) (byt_of hR_next_b2 (j := 79) rfl) rfl
theorem dR_next_272 : decode (mcc mR_next) 272 = .ok (.imul, 1) := o104 (byt_of hR_next_b2 (j := 80) rfl)
theorem dR_next_273 : decode (mcc mR_next) 273 = .ok (.aload_n 0, 1) := o42 (byt_of hR_next_b2 (j := 81) rfl)
theorem dR_next_274 : decode (mcc mR_next) 274 = .ok (.getfield 68, 3) := o180 (a := 0) (b := 68) (byt_of hR_next_b2 (j := 82) rfl) (byt_of hR_next_b2 (j := 83) rfl) (byt_of hR_next_b2 (j := 84) rfl) rfl
theorem dR_next_277 : decode (mcc mR_next) 277 = .ok (.aload_n 0, 1) := o42 (byt_of hR_next_b2 (j := 85) rfl)
theorem dR_next_278 : decode (mcc mR_next) 278 = .ok (.getfield 171, 3) := o180 (a := 0) (b := 171) (byt_of hR_next_b2 (j := 86) rfl) (byt_of hR_next_b2 (j := 87) rfl) (byt_of hR_next_b2 (j := 88) rfl) rfl
theorem dR_next_281 : decode (mcc mR_next) 281 = .ok (.iaload, 1) := o46 (byt_of hR_next_b2 (j := 89) rfl)
theorem dR_next_282 : decode (mcc mR_next) 282 = .ok (.iadd, 1) := o96 (byt_of hR_next_b2 (j := 90) rfl)
theorem dR_next_283 : decode (mcc mR_next) 283 = .ok (.bipush 48, 2) := o16 (a := 48) (byt_of hR_next_b2 (j := 91) rfl) (byt_of hR_next_b2 (j := 92) rfl) rfl
theorem dR_next_285 : decode (mcc mR_next) 285 = .ok (.isub, 1) := o100 (byt_of hR_next_b2 (j := 93) rfl)
theorem dR_next_286 : decode (mcc mR_next) 286 = .ok (.goto 4, 3) := o167 (a := 0) (b := 4) (byt_of hR_next_b2 (j := 94) rfl) (byt_of hR_next_b2 (j := 95) rfl) (byt_of hR_next_b2 (j := 96) rfl) rfl
def bR_next_b3 : List Nat := [4, 3, 181, 0, 180, 132, 2, 1, 42, 89, 180, 0, 171, 4, 96, 181, 0, 171, 167, 255, 180, 42, 28, 7, 164, 0, 7, 2, 167, 0, 4, 4, 181, 0, 177, 167, 0, 80, 27, 16, 40, 159, 0, 45, 27, 16, 41, 159, 0, 39, 27, 16, 59, 159, 0, 33, 27, 16, 43, 159, 0, 27, 27, 16, 45, 159, 0, 21, 27, 16, 42, 159, 0, 15, 27, 16, 60, 159, 0, 9, 27, 16, 61, 160, 0, 7, 4, 167, 0, 4, 3, 61, 42, 28, 153, 0, 7, 27, 167, 0, 4, 2]
theorem hR_next_b3 : BL (mcc mR_next) 288 bR_next_b3 := by decide +kernel
theorem dR_next_289 : decode (mcc mR_next) 289 = .ok (.iconst 0, 1) := o3 (byt_of hR_next_b3 (j := 1) rfl)
theorem dR_next_290 : decode (mcc mR_next) 290 = .ok (.putfield 180, 3) := o181 (a := 0) (b := 180) (byt_of hR_next_b3 (j := 2) rfl) (byt_of hR_next_b3 (j := 3) rfl) (byt_of hR_next_b3 (j := 4) rfl) rfl
theorem dR_next_293 : decode (mcc mR_next) 293 = .ok (.iinc 2 1, 3) := o132 (a := 2) (b := 1) (byt_of hR_next_b3 (j := 5) rfl) (byt_of hR_next_b3 (j := 6) rfl) (byt_of hR_next_b3 (j := 7) rfl) rfl
theorem dR_next_296 : decode (mcc mR_next) 296 = .ok (.aload_n 0, 1) := o42 (byt_of hR_next_b3 (j := 8) rfl)
theorem dR_next_297 : decode (mcc mR_next) 297 = .ok (.dup, 1) := o89 (byt_of hR_next_b3 (j := 9) rfl)
theorem dR_next_298 : decode (mcc mR_next) 298 = .ok (.getfield 171, 3) := o180 (a := 0) (b := 171) (byt_of hR_next_b3 (j := 10) rfl) (byt_of hR_next_b3 (j := 11) rfl) (byt_of hR_next_b3 (j := 12) rfl) rfl
theorem dR_next_301 : decode (mcc mR_next) 301 = .ok (.iconst 1, 1) := o4 (byt_of hR_next_b3 (j := 13) rfl)
theorem dR_next_302 : decode (mcc mR_next) 302 = .ok (.iadd, 1) := o96 (byt_of hR_next_b3 (j := 14) rfl)
theorem dR_next_303 : decode (mcc mR_next) 303 = .ok (.putfield 171, 3) := o181 (a := 0) (b := 171) (byt_of hR_next_b3 (j := 15) rfl) (byt_of hR_next_b3 (j := 16) rfl) (byt_of hR_next_b3 (j := 17) rfl) rfl
theorem dR_next_306 : decode (mcc mR_next) 306 = .ok (.goto (-76), 3) := o167 (a := 255) (b := 180) (byt_of hR_next_b3 (j := 18) rfl) (byt_of hR_next_b3 (j := 19) rfl) (byt_of hR_next_b3 (j := 20) rfl) rfl
theorem dR_next_309 : decode (mcc mR_next) 309 = .ok (.aload_n 0, 1) := o42 (byt_of hR_next_b3 (j := 21) rfl)
theorem dR_next_310 : decode (mcc mR_next) 310 = .ok (.iload_n 2, 1) := o28 (byt_of hR_next_b3 (j := 22) rfl)
theorem dR_next_311 : decode (mcc mR_next) 311 = .ok (.iconst 4, 1) := o7 (byt_of hR_next_b3 (j := 23) rfl)
theorem dR_next_312 : decode (mcc mR_next) 312 = .ok (.if_icmp .le 7, 3) := o164 (a := 0) (b := 7) (byt_of hR_next_b3 (j := 24) rfl) (byt_of hR_next_b3 (j := 25) rfl) (byt_of hR_next_b3 (j := 26) rfl) rfl
theorem dR_next_315 : decode (mcc mR_next) 315 = .ok (.iconst (-1), 1) := o2 (byt_of hR_next_b3 (j := 27) rfl)
theorem dR_next_316 : decode (mcc mR_next) 316 = .ok (.goto 4, 3) := o167 (a := 0) (b := 4) (byt_of hR_next_b3 (j := 28) rfl) (byt_of hR_next_b3 (j := 29) rfl) (byt_of hR_next_b3 (j := 30) rfl) rfl
theorem dR_next_319 : decode (mcc mR_next) 319 = .ok (.iconst 1, 1) := o4 (byt_of hR_next_b3 (j := 31) rfl)
theorem dR_next_320 : decode (mcc mR_next) 320 = .ok (.putfield 177, 3) := o181 (a := 0) (b := 177) (byt_of hR_next_b3 (j := 32) rfl) (byt_of hR_next_b3 (j := 33) rfl) (byt_of hR_next_b3 (j := 34) rfl) rfl
theorem dR_next_323 : decode (mcc mR_next) 323 = .ok (.goto 80, 3) := o167 (a := 0) (b := 80) (byt_of hR_next_b3 (j := 35) rfl) (byt_of hR_next_b3 (j := 36) rfl) (byt_of hR_next_b3 (j := 37) rfl) rfl
theorem dR_next_326 : decode (mcc mR_next) 326 = .ok (.iload_n 1, 1) := o27 (byt_of hR_next_b3 (j := 38) rfl)
theorem dR_next_327 : decode (mcc mR_next) 327 = .ok (.bipush 40, 2) := o16 (a := 40) (byt_of hR_next_b3 (j := 39) rfl) (byt_of hR_next_b3 (j := 40) rfl) rfl
theorem dR_next_329 : decode (mcc mR_next) 329 = .ok (.if_icmp .eq 45, 3) := o159 (a := 0) (b := 45) (byt_of hR_next_b3 (j := 41) rfl) (byt_of hR_next_b3 (j := 42) rfl) (byt_of hR_next_b3 (j := 43) rfl) rfl
theorem dR_next_332 : decode (mcc mR_next) 332 = .ok (.iload_n 1, 1) := o27 (byt_of hR_next_b3 (j := 44) rfl)
theorem dR_next_333 : decode (mcc mR_next) 333 = .ok (.bipush 41, 2) := o16 (a := 41) (byt_of hR_next_b3 (j := 45) rfl) (byt_of hR_next_b3 (j := 46) rfl) rfl
theorem dR_next_335 : decode (mcc mR_next) 335 = .ok (.if_icmp .eq 39, 3) := o159 (a := 0) (b := 39) (byt_of hR_next_b3 (j := 47) rfl) (byt_of hR_next_b3 (j := 48) rfl) (byt_of hR_next_b3 (j := 49) rfl) rfl
theorem dR_next_338 : decode (mcc mR_next) 338 = .ok (.iload_n 1, 1) := o27 (byt_of hR_next_b3 (j := 50) rfl)
theorem dR_next_339 : decode (mcc mR_next) 339 = .ok (.bipush 59, 2) := o16 (a := 59) (byt_of hR_next_b3 (j := 51) rfl) (byt_of hR_next_b3 (j := 52) rfl) rfl
theorem dR_next_341 : decode (mcc mR_next) 341 = .ok (.if_icmp .eq 33, 3) := o159 (a := 0) (b := 33) (byt_of hR_next_b3 (j := 53) rfl) (byt_of hR_next_b3 (j := 54) rfl) (byt_of hR_next_b3 (j := 55) rfl) rfl
theorem dR_next_344 : decode (mcc mR_next) 344 = .ok (.iload_n 1, 1) := o27 (byt_of hR_next_b3 (j := 56) rfl)
theorem dR_next_345 : decode (mcc mR_next) 345 = .ok (.bipush 43, 2) := o16 (a := 43) (byt_of hR_next_b3 (j := 57) rfl) (byt_of hR_next_b3 (j := 58) rfl) rfl
theorem dR_next_347 : decode (mcc mR_next) 347 = .ok (.if_icmp .eq 27, 3) := o159 (a := 0) (b := 27) (byt_of hR_next_b3 (j := 59) rfl) (byt_of hR_next_b3 (j := 60) rfl) (byt_of hR_next_b3 (j := 61) rfl) rfl
theorem dR_next_350 : decode (mcc mR_next) 350 = .ok (.iload_n 1, 1) := o27 (byt_of hR_next_b3 (j := 62) rfl)
theorem dR_next_351 : decode (mcc mR_next) 351 = .ok (.bipush 45, 2) := o16 (a := 45) (byt_of hR_next_b3 (j := 63) rfl) (byt_of hR_next_b3 (j := 64) rfl) rfl
theorem dR_next_353 : decode (mcc mR_next) 353 = .ok (.if_icmp .eq 21, 3) := o159 (a := 0) (b := 21) (byt_of hR_next_b3 (j := 65) rfl) (byt_of hR_next_b3 (j := 66) rfl) (byt_of hR_next_b3 (j := 67) rfl) rfl
theorem dR_next_356 : decode (mcc mR_next) 356 = .ok (.iload_n 1, 1) := o27 (byt_of hR_next_b3 (j := 68) rfl)
theorem dR_next_357 : decode (mcc mR_next) 357 = .ok (.bipush 42, 2) := o16 (a := 42) (byt_of hR_next_b3 (j := 69) rfl) (byt_of hR_next_b3 (j := 70) rfl) rfl
theorem dR_next_359 : decode (mcc mR_next) 359 = .ok (.if_icmp .eq 15, 3) := o159 (a := 0) (b := 15) (byt_of hR_next_b3 (j := 71) rfl) (byt_of hR_next_b3 (j := 72) rfl) (byt_of hR_next_b3 (j := 73) rfl) rfl
theorem dR_next_362 : decode (mcc mR_next) 362 = .ok (.iload_n 1, 1) := o27 (byt_of hR_next_b3 (j := 74) rfl)
theorem dR_next_363 : decode (mcc mR_next) 363 = .ok (.bipush 60, 2) := o16 (a := 60) (byt_of hR_next_b3 (j := 75) rfl) (byt_of hR_next_b3 (j := 76) rfl) rfl
theorem dR_next_365 : decode (mcc mR_next) 365 = .ok (.if_icmp .eq 9, 3) := o159 (a := 0) (b := 9) (byt_of hR_next_b3 (j := 77) rfl) (byt_of hR_next_b3 (j := 78) rfl) (byt_of hR_next_b3 (j := 79) rfl) rfl
theorem dR_next_368 : decode (mcc mR_next) 368 = .ok (.iload_n 1, 1) := o27 (byt_of hR_next_b3 (j := 80) rfl)
theorem dR_next_369 : decode (mcc mR_next) 369 = .ok (.bipush 61, 2) := o16 (a := 61) (byt_of hR_next_b3 (j := 81) rfl) (byt_of hR_next_b3 (j := 82) rfl) rfl
theorem dR_next_371 : decode (mcc mR_next) 371 = .ok (.if_icmp .ne 7, 3) := o160 (a := 0) (b := 7) (byt_of hR_next_b3 (j := 83) rfl) (byt_of hR_next_b3 (j := 84) rfl) (byt_of hR_next_b3 (j := 85) rfl) rfl
theorem dR_next_374 : decode (mcc mR_next) 374 = .ok (.iconst 1, 1) := o4 (byt_of hR_next_b3 (j := 86) rfl)
theorem dR_next_375 : decode (mcc mR_next) 375 = .ok (.goto 4, 3) := o167 (a := 0) (b := 4) (byt_of hR_next_b3 (j := 87) rfl) (byt_of hR_next_b3 (j := 88) rfl) (byt_of hR_next_b3 (j := 89) rfl) rfl
theorem dR_next_378 : decode (mcc mR_next) 378 = .ok (.iconst 0, 1) := o3 (byt_of hR_next_b3 (j := 90) rfl)
theorem dR_next_379 : decode (mcc mR_next) 379 = .ok (.istore_n 2, 1) := o61 (byt_of hR_next_b3 (j := 91) rfl)
theorem dR_next_380 : decode (mcc mR_next) 380 = .ok (.aload_n 0, 1) := o42 (byt_of hR_next_b3 (j := 92) rfl)
theorem dR_next_381 : decode (mcc mR_next) 381 = .ok (.iload_n 2, 1) := o28 (byt_of hR_next_b3 (j := 93) rfl)
theorem dR_next_382 : decode (mcc mR_next) 382 = .ok (.ifCond .eq 7, 3) := o153 (a := 0) (b := 7) (byt_of hR_next_b3 (j := 94) rfl) (byt_of hR_next_b3 (j := 95) rfl) (byt_of hR_next_b3 (j := 96) rfl) rfl
def bR_next_b4 : List Nat := [7, 27, 167, 0, 4, 2, 181, 0, 177, 42, 89, 180, 0, 171, 4, 96, 181, 0, 171, 177]
theorem hR_next_b4 : BL (mcc mR_next) 384 bR_next_b4 := by decide +kernel
theorem dR_next_385 : decode (mcc mR_next) 385 = .ok (.iload_n 1, 1) := o27 (byt_of hR_next_b4 (j := 1) rfl)
theorem dR_next_386 : decode (mcc mR_next) 386 = .ok (.goto 4, 3) := o167 (a := 0) (b := 4) (byt_of hR_next_b4 (j := 2) rfl) (byt_of hR_next_b4 (j := 3) rfl) (byt_of hR_next_b4 (j := 4) rfl) rfl
theorem dR_next_389 : decode (mcc mR_next) 389 = .ok (.iconst (-1), 1) := o2 (byt_of hR_next_b4 (j := 5) rfl)
theorem dR_next_390 : decode (mcc mR_next) 390 = .ok (.putfield 177, 3) := o181 (a := 0) (b := 177) (byt_of hR_next_b4 (j := 6) rfl) (byt_of hR_next_b4 (j := 7) rfl) (byt_of hR_next_b4 (j := 8) rfl) rfl
theorem dR_next_393 : decode (mcc mR_next) 393 = .ok (.aload_n 0, 1) := o42 (byt_of hR_next_b4 (j := 9) rfl)
theorem dR_next_394 : decode (mcc mR_next) 394 = .ok (.dup, 1) := o89 (byt_of hR_next_b4 (j := 10) rfl)
theorem dR_next_395 : decode (mcc mR_next) 395 = .ok (.getfield 171, 3) := o180 (a := 0) (b := 171) (byt_of hR_next_b4 (j := 11) rfl) (byt_of hR_next_b4 (j := 12) rfl) (byt_of hR_next_b4 (j := 13) rfl) rfl
theorem dR_next_398 : decode (mcc mR_next) 398 = .ok (.iconst 1, 1) := o4 (byt_of hR_next_b4 (j := 14) rfl)
theorem dR_next_399 : decode (mcc mR_next) 399 = .ok (.iadd, 1) := o96 (byt_of hR_next_b4 (j := 15) rfl)
theorem dR_next_400 : decode (mcc mR_next) 400 = .ok (.putfield 171, 3) := o181 (a := 0) (b := 171) (byt_of hR_next_b4 (j := 16) rfl) (byt_of hR_next_b4 (j := 17) rfl) (byt_of hR_next_b4 (j := 18) rfl) rfl
theorem dR_next_403 : decode (mcc mR_next) 403 = .ok (.return_, 1) := o177 (byt_of hR_next_b4 (j := 19) rfl)
def bR_rank_b0 : List Nat := [26, 154, 0, 7, 3, 167, 0, 66, 26, 16, 11, 160, 0, 7, 4, 167, 0, 56, 26, 16, 12, 160, 0, 7, 5, 167, 0, 46, 26, 16, 13, 160, 0, 7, 6, 167, 0, 36, 26, 16, 15, 163, 0, 7, 7, 167, 0, 26, 26, 16, 17, 163, 0, 7, 8, 167, 0, 16, 26, 16, 18, 160, 0, 8, 16, 6, 167, 0, 5, 16, 7, 172]
theorem hR_rank_b0 : BL (mcc mR_rank) 0 bR_rank_b0 := by decide +kernel
theorem dR_rank_0 : decode (mcc mR_rank) 0 = .ok (.iload_n 0, 1) := o26 (byt_of hR_rank_b0 (j := 0) rfl)
theorem dR_rank_1 : decode (mcc mR_rank) 1 = .ok (.ifCond .ne 7, 3) := o154 (a := 0) (b := 7) (byt_of hR_rank_b0 (j := 1) rfl) (byt_of hR_rank_b0 (j := 2) rfl) (byt_of hR_rank_b0 (j := 3) rfl) rfl
theorem dR_rank_4 : decode (mcc mR_rank) 4 = .ok (.iconst 0, 1) := o3 (byt_of hR_rank_b0 (j := 4) rfl)
theorem dR_rank_5 : decode (mcc mR_rank) 5 = .ok (.goto 66, 3) := o167 (a := 0) (b := 66) (byt_of hR_rank_b0 (j := 5) rfl) (byt_of hR_rank_b0 (j := 6) rfl) (byt_of hR_rank_b0 (j := 7) rfl) rfl
theorem dR_rank_8 : decode (mcc mR_rank) 8 = .ok (.iload_n 0, 1) := o26 (byt_of hR_rank_b0 (j := 8) rfl)
theorem dR_rank_9 : decode (mcc mR_rank) 9 = .ok (.bipush 11, 2) := o16 (a := 11) (byt_of hR_rank_b0 (j := 9) rfl) (byt_of hR_rank_b0 (j := 10) rfl) rfl
theorem dR_rank_11 : decode (mcc mR_rank) 11 = .ok (.if_icmp .ne 7, 3) := o160 (a := 0) (b := 7) (byt_of hR_rank_b0 (j := 11) rfl) (byt_of hR_rank_b0 (j := 12) rfl) (byt_of hR_rank_b0 (j := 13) rfl) rfl
theorem dR_rank_14 : decode (mcc mR_rank) 14 = .ok (.iconst 1, 1) := o4 (byt_of hR_rank_b0 (j := 14) rfl)
theorem dR_rank_15 : decode (mcc mR_rank) 15 = .ok (.goto 56, 3) := o167 (a := 0) (b := 56) (byt_of hR_rank_b0 (j := 15) rfl) (byt_of hR_rank_b0 (j := 16) rfl) (byt_of hR_rank_b0 (j := 17) rfl) rfl
theorem dR_rank_18 : decode (mcc mR_rank) 18 = .ok (.iload_n 0, 1) := o26 (byt_of hR_rank_b0 (j := 18) rfl)
theorem dR_rank_19 : decode (mcc mR_rank) 19 = .ok (.bipush 12, 2) := o16 (a := 12) (byt_of hR_rank_b0 (j := 19) rfl) (byt_of hR_rank_b0 (j := 20) rfl) rfl
theorem dR_rank_21 : decode (mcc mR_rank) 21 = .ok (.if_icmp .ne 7, 3) := o160 (a := 0) (b := 7) (byt_of hR_rank_b0 (j := 21) rfl) (byt_of hR_rank_b0 (j := 22) rfl) (byt_of hR_rank_b0 (j := 23) rfl) rfl
theorem dR_rank_24 : decode (mcc mR_rank) 24 = .ok (.iconst 2, 1) := o5 (byt_of hR_rank_b0 (j := 24) rfl)
theorem dR_rank_25 : decode (mcc mR_rank) 25 = .ok (.goto 46, 3) := o167 (a := 0) (b := 46) (byt_of hR_rank_b0 (j := 25) rfl) (byt_of hR_rank_b0 (j := 26) rfl) (byt_of hR_rank_b0 (j := 27) rfl) rfl
theorem dR_rank_28 : decode (mcc mR_rank) 28 = .ok (.iload_n 0, 1) := o26 (byt_of hR_rank_b0 (j := 28) rfl)
theorem dR_rank_29 : decode (mcc mR_rank) 29 = .ok (.bipush 13, 2) := o16 (a := 13) (byt_of hR_rank_b0 (j := 29) rfl) (byt_of hR_rank_b0 (j := 30) rfl) rfl
theorem dR_rank_31 : decode (mcc mR_rank) 31 = .ok (.if_icmp .ne 7, 3) := o160 (a := 0) (b := 7) (byt_of hR_rank_b0 (j := 31) rfl) (byt_of hR_rank_b0 (j := 32) rfl) (byt_of hR_rank_b0 (j := 33) rfl) rfl
theorem dR_rank_34 : decode (mcc mR_rank) 34 = .ok (.iconst 3, 1) := o6 (byt_of hR_rank_b0 (j := 34) rfl)
theorem dR_rank_35 : decode (mcc mR_rank) 35 = .ok (.goto 36, 3) := o167 (a := 0) (b := 36) (byt_of hR_rank_b0 (j := 35) rfl) (byt_of hR_rank_b0 (j := 36) rfl) (byt_of hR_rank_b0 (j := 37) rfl) rfl
theorem dR_rank_38 : decode (mcc mR_rank) 38 = .ok (.iload_n 0, 1) := o26 (byt_of hR_rank_b0 (j := 38) rfl)
theorem dR_rank_39 : decode (mcc mR_rank) 39 = .ok (.bipush 15, 2) := o16 (a := 15) (byt_of hR_rank_b0 (j := 39) rfl) (byt_of hR_rank_b0 (j := 40) rfl) rfl
theorem dR_rank_41 : decode (mcc mR_rank) 41 = .ok (.if_icmp .gt 7, 3) := o163 (a := 0) (b := 7) (byt_of hR_rank_b0 (j := 41) rfl) (byt_of hR_rank_b0 (j := 42) rfl) (byt_of hR_rank_b0 (j := 43) rfl) rfl
theorem dR_rank_44 : decode (mcc mR_rank) 44 = .ok (.iconst 4, 1) := o7 (byt_of hR_rank_b0 (j := 44) rfl)
theorem dR_rank_45 : decode (mcc mR_rank) 45 = .ok (.goto 26, 3) := o167 (a := 0) (b := 26) (byt_of hR_rank_b0 (j := 45) rfl) (byt_of hR_rank_b0 (j := 46) rfl) (byt_of hR_rank_b0 (j := 47) rfl) rfl
theorem dR_rank_48 : decode (mcc mR_rank) 48 = .ok (.iload_n 0, 1) := o26 (byt_of hR_rank_b0 (j := 48) rfl)
theorem dR_rank_49 : decode (mcc mR_rank) 49 = .ok (.bipush 17, 2) := o16 (a := 17) (byt_of hR_rank_b0 (j := 49) rfl) (byt_of hR_rank_b0 (j := 50) rfl) rfl
theorem dR_rank_51 : decode (mcc mR_rank) 51 = .ok (.if_icmp .gt 7, 3) := o163 (a := 0) (b := 7) (byt_of hR_rank_b0 (j := 51) rfl) (byt_of hR_rank_b0 (j := 52) rfl) (byt_of hR_rank_b0 (j := 53) rfl) rfl
theorem dR_rank_54 : decode (mcc mR_rank) 54 = .ok (.iconst 5, 1) := o8 (byt_of hR_rank_b0 (j := 54) rfl)
theorem dR_rank_55 : decode (mcc mR_rank) 55 = .ok (.goto 16, 3) := o167 (a := 0) (b := 16) (byt_of hR_rank_b0 (j := 55) rfl) (byt_of hR_rank_b0 (j := 56) rfl) (byt_of hR_rank_b0 (j := 57) rfl) rfl
theorem dR_rank_58 : decode (mcc mR_rank) 58 = .ok (.iload_n 0, 1) := o26 (byt_of hR_rank_b0 (j := 58) rfl)
theorem dR_rank_59 : decode (mcc mR_rank) 59 = .ok (.bipush 18, 2) := o16 (a := 18) (byt_of hR_rank_b0 (j := 59) rfl) (byt_of hR_rank_b0 (j := 60) rfl) rfl
theorem dR_rank_61 : decode (mcc mR_rank) 61 = .ok (.if_icmp .ne 8, 3) := o160 (a := 0) (b := 8) (byt_of hR_rank_b0 (j := 61) rfl) (byt_of hR_rank_b0 (j := 62) rfl) (byt_of hR_rank_b0 (j := 63) rfl) rfl
theorem dR_rank_64 : decode (mcc mR_rank) 64 = .ok (.bipush 6, 2) := o16 (a := 6) (byt_of hR_rank_b0 (j := 64) rfl) (byt_of hR_rank_b0 (j := 65) rfl) rfl
theorem dR_rank_66 : decode (mcc mR_rank) 66 = .ok (.goto 5, 3) := o167 (a := 0) (b := 5) (byt_of hR_rank_b0 (j := 66) rfl) (byt_of hR_rank_b0 (j := 67) rfl) (byt_of hR_rank_b0 (j := 68) rfl) rfl
theorem dR_rank_69 : decode (mcc mR_rank) 69 = .ok (.bipush 7, 2) := o16 (a := 7) (byt_of hR_rank_b0 (j := 69) rfl) (byt_of hR_rank_b0 (j := 70) rfl) rfl
theorem dR_rank_71 : decode (mcc mR_rank) 71 = .ok (.ireturn, 1) := o172 (byt_of hR_rank_b0 (j := 71) rfl)
def bR_puts_b0 : List Nat := [42, 180, 0, 71, 17, 0, 200, 42, 180, 0, 161, 104, 42, 180, 0, 187, 96, 27, 79, 42, 89, 180, 0, 187, 4, 96, 181, 0, 187, 177]
theorem hR_puts_b0 : BL (mcc mR_puts) 0 bR_puts_b0 := by decide +kernel
theorem dR_puts_0 : decode (mcc mR_puts) 0 = .ok (.aload_n 0, 1) := o42 (byt_of hR_puts_b0 (j := 0) rfl)
theorem dR_puts_1 : decode (mcc mR_puts) 1 = .ok (.getfield 71, 3) := o180 (a := 0) (b := 71) (byt_of hR_puts_b0 (j := 1) rfl) (byt_of hR_puts_b0 (j := 2) rfl) (byt_of hR_puts_b0 (j := 3) rfl) rfl
theorem dR_puts_4 : decode (mcc mR_puts) 4 = .ok (.sipush 200, 3) := o17 (a := 0) (b := 200) (byt_of hR_puts_b0 (j := 4) rfl) (byt_of hR_puts_b0 (j := 5) rfl) (byt_of hR_puts_b0 (j := 6) rfl) rfl
theorem dR_puts_7 : decode (mcc mR_puts) 7 = .ok (.aload_n 0, 1) := o42 (byt_of hR_puts_b0 (j := 7) rfl)
theorem dR_puts_8 : decode (mcc mR_puts) 8 = .ok (.getfield 161, 3) := o180 (a := 0) (b := 161) (byt_of hR_puts_b0 (j := 8) rfl) (byt_of hR_puts_b0 (j := 9) rfl) (byt_of hR_puts_b0 (j := 10) rfl) rfl
theorem dR_puts_11 : decode (mcc mR_puts) 11 = .ok (.imul, 1) := o104 (byt_of hR_puts_b0 (j := 11) rfl)
theorem dR_puts_12 : decode (mcc mR_puts) 12 = .ok (.aload_n 0, 1) := o42 (byt_of hR_puts_b0 (j := 12) rfl)
theorem dR_puts_13 : decode (mcc mR_puts) 13 = .ok (.getfield 187, 3) := o180 (a := 0) (b := 187) (byt_of hR_puts_b0 (j := 13) rfl) (byt_of hR_puts_b0 (j := 14) rfl) (byt_of hR_puts_b0 (j := 15) rfl) rfl
theorem dR_puts_16 : decode (mcc mR_puts) 16 = .ok (.iadd, 1) := o96 (byt_of hR_puts_b0 (j := 16) rfl)
theorem dR_puts_17 : decode (mcc mR_puts) 17 = .ok (.iload_n 1, 1) := o27 (byt_of hR_puts_b0 (j := 17) rfl)
theorem dR_puts_18 : decode (mcc mR_puts) 18 = .ok (.iastore, 1) := o79 (byt_of hR_puts_b0 (j := 18) rfl)
theorem dR_puts_19 : decode (mcc mR_puts) 19 = .ok (.aload_n 0, 1) := o42 (byt_of hR_puts_b0 (j := 19) rfl)
theorem dR_puts_20 : decode (mcc mR_puts) 20 = .ok (.dup, 1) := o89 (byt_of hR_puts_b0 (j := 20) rfl)
theorem dR_puts_21 : decode (mcc mR_puts) 21 = .ok (.getfield 187, 3) := o180 (a := 0) (b := 187) (byt_of hR_puts_b0 (j := 21) rfl) (byt_of hR_puts_b0 (j := 22) rfl) (byt_of hR_puts_b0 (j := 23) rfl) rfl
theorem dR_puts_24 : decode (mcc mR_puts) 24 = .ok (.iconst 1, 1) := o4 (byt_of hR_puts_b0 (j := 24) rfl)
theorem dR_puts_25 : decode (mcc mR_puts) 25 = .ok (.iadd, 1) := o96 (byt_of hR_puts_b0 (j := 25) rfl)
theorem dR_puts_26 : decode (mcc mR_puts) 26 = .ok (.putfield 187, 3) := o181 (a := 0) (b := 187) (byt_of hR_puts_b0 (j := 26) rfl) (byt_of hR_puts_b0 (j := 27) rfl) (byt_of hR_puts_b0 (j := 28) rfl) rfl
theorem dR_puts_29 : decode (mcc mR_puts) 29 = .ok (.return_, 1) := o177 (byt_of hR_puts_b0 (j := 29) rfl)
def bR_unwinds_b0 : List Nat := [42, 180, 0, 190, 158, 0, 75, 42, 180, 0, 113, 42, 180, 0, 190, 4, 100, 46, 184, 0, 193, 27, 161, 0, 57, 42, 89, 180, 0, 190, 4, 100, 181, 0, 190, 42, 180, 0, 113, 42, 180, 0, 190, 46, 61, 42, 89, 180, 0, 196, 28, 16, 13, 159, 0, 9, 28, 16, 19, 160, 0, 7, 4, 167, 0, 4, 3, 100, 181, 0, 196, 42, 28, 182, 0, 199, 167, 255, 180, 177]
theorem hR_unwinds_b0 : BL (mcc mR_unwinds) 0 bR_unwinds_b0 := by decide +kernel
theorem dR_unwinds_0 : decode (mcc mR_unwinds) 0 = .ok (.aload_n 0, 1) := o42 (byt_of hR_unwinds_b0 (j := 0) rfl)
theorem dR_unwinds_1 : decode (mcc mR_unwinds) 1 = .ok (.getfield 190, 3) := o180 (a := 0) (b := 190) (byt_of hR_unwinds_b0 (j := 1) rfl) (byt_of hR_unwinds_b0 (j := 2) rfl) (byt_of hR_unwinds_b0 (j := 3) rfl) rfl
theorem dR_unwinds_4 : decode (mcc mR_unwinds) 4 = .ok (.ifCond .le 75, 3) := o158 (a := 0) (b := 75) (byt_of hR_unwinds_b0 (j := 4) rfl) (byt_of hR_unwinds_b0 (j := 5) rfl) (byt_of hR_unwinds_b0 (j := 6) rfl) rfl
theorem dR_unwinds_7 : decode (mcc mR_unwinds) 7 = .ok (.aload_n 0, 1) := o42 (byt_of hR_unwinds_b0 (j := 7) rfl)
theorem dR_unwinds_8 : decode (mcc mR_unwinds) 8 = .ok (.getfield 113, 3) := o180 (a := 0) (b := 113) (byt_of hR_unwinds_b0 (j := 8) rfl) (byt_of hR_unwinds_b0 (j := 9) rfl) (byt_of hR_unwinds_b0 (j := 10) rfl) rfl
theorem dR_unwinds_11 : decode (mcc mR_unwinds) 11 = .ok (.aload_n 0, 1) := o42 (byt_of hR_unwinds_b0 (j := 11) rfl)
theorem dR_unwinds_12 : decode (mcc mR_unwinds) 12 = .ok (.getfield 190, 3) := o180 (a := 0) (b := 190) (byt_of hR_unwinds_b0 (j := 12) rfl) (byt_of hR_unwinds_b0 (j := 13) rfl) (byt_of hR_unwinds_b0 (j := 14) rfl) rfl
theorem dR_unwinds_15 : decode (mcc mR_unwinds) 15 = .ok (.iconst 1, 1) := o4 (byt_of hR_unwinds_b0 (j := 15) rfl)
theorem dR_unwinds_16 : decode (mcc mR_unwinds) 16 = .ok (.isub, 1) := o100 (byt_of hR_unwinds_b0 (j := 16) rfl)
theorem dR_unwinds_17 : decode (mcc mR_unwinds) 17 = .ok (.iaload, 1) := o46 (byt_of hR_unwinds_b0 (j := 17) rfl)
theorem dR_unwinds_18 : decode (mcc mR_unwinds) 18 = .ok (.invokestatic 193, 3) := o184 (a := 0) (b := 193) (byt_of hR_unwinds_b0 (j := 18) rfl) (byt_of hR_unwinds_b0 (j := 19) rfl) (byt_of hR_unwinds_b0 (j := 20) rfl) rfl
theorem dR_unwinds_21 : decode (mcc mR_unwinds) 21 = .ok (.iload_n 1, 1) := o27 (byt_of hR_unwinds_b0 (j := 21) rfl)
theorem dR_unwinds_22 : decode (mcc mR_unwinds) 22 = .ok (.if_icmp .lt 57, 3) := o161 (a := 0) (b := 57) (byt_of hR_unwinds_b0 (j := 22) rfl) (byt_of hR_unwinds_b0 (j := 23) rfl) (byt_of hR_unwinds_b0 (j := 24) rfl) rfl
theorem dR_unwinds_25 : decode (mcc mR_unwinds) 25 = .ok (.aload_n 0, 1) := o42 (byt_of hR_unwinds_b0 (j := 25) rfl)
theorem dR_unwinds_26 : decode (mcc mR_unwinds) 26 = .ok (.dup, 1) := o89 (byt_of hR_unwinds_b0 (j := 26) rfl)
theorem dR_unwinds_27 : decode (mcc mR_unwinds) 27 = .ok (.getfield 190, 3) := o180 (a := 0) (b := 190) (byt_of hR_unwinds_b0 (j := 27) rfl) (byt_of hR_unwinds_b0 (j := 28) rfl) (byt_of hR_unwinds_b0 (j := 29) rfl) rfl
theorem dR_unwinds_30 : decode (mcc mR_unwinds) 30 = .ok (.iconst 1, 1) := o4 (byt_of hR_unwinds_b0 (j := 30) rfl)
theorem dR_unwinds_31 : decode (mcc mR_unwinds) 31 = .ok (.isub, 1) := o100 (byt_of hR_unwinds_b0 (j := 31) rfl)
theorem dR_unwinds_32 : decode (mcc mR_unwinds) 32 = .ok (.putfield 190, 3) := o181 (a := 0) (b := 190) (byt_of hR_unwinds_b0 (j := 32) rfl) (byt_of hR_unwinds_b0 (j := 33) rfl) (byt_of hR_unwinds_b0 (j := 34) rfl) rfl
theorem dR_unwinds_35 : decode (mcc mR_unwinds) 35 = .ok (.aload_n 0, 1) := o42 (byt_of hR_unwinds_b0 (j := 35) rfl)
theorem dR_unwinds_36 : decode (mcc mR_unwinds) 36 = .ok (.getfield 113, 3) := o180 (a := 0) (b := 113) (byt_of hR_unwinds_b0 (j := 36) rfl) (byt_of hR_unwinds_b0 (j := 37) rfl) (byt_of hR_unwinds_b0 (j := 38) rfl) rfl
theorem dR_unwinds_39 : decode (mcc mR_unwinds) 39 = .ok (.aload_n 0, 1) := o42 (byt_of hR_unwinds_b0 (j := 39) rfl)
theorem dR_unwinds_40 : decode (mcc mR_unwinds) 40 = .ok (.getfield 190, 3) := o180 (a := 0) (b := 190) (byt_of hR_unwinds_b0 (j := 40) rfl) (byt_of hR_unwinds_b0 (j := 41) rfl) (byt_of hR_unwinds_b0 (j := 42) rfl) rfl
theorem dR_unwinds_43 : decode (mcc mR_unwinds) 43 = .ok (.iaload, 1) := o46 (byt_of hR_unwinds_b0 (j := 43) rfl)
theorem dR_unwinds_44 : decode (mcc mR_unwinds) 44 = .ok (.istore_n 2, 1) := o61 (byt_of hR_unwinds_b0 (j := 44) rfl)
theorem dR_unwinds_45 : decode (mcc mR_unwinds) 45 = .ok (.aload_n 0, 1) := o42 (byt_of hR_unwinds_b0 (j := 45) rfl)
theorem dR_unwinds_46 : decode (mcc mR_unwinds) 46 = .ok (.dup, 1) := o89 (byt_of hR_unwinds_b0 (j := 46) rfl)
theorem dR_unwinds_47 : decode (mcc mR_unwinds) 47 = .ok (.getfield 196, 3) := o180 (a := 0) (b := 196) (byt_of hR_unwinds_b0 (j := 47) rfl) (byt_of hR_unwinds_b0 (j := 48) rfl) (byt_of hR_unwinds_b0 (j := 49) rfl) rfl
theorem dR_unwinds_50 : decode (mcc mR_unwinds) 50 = .ok (.iload_n 2, 1) := o28 (byt_of hR_unwinds_b0 (j := 50) rfl)
theorem dR_unwinds_51 : decode (mcc mR_unwinds) 51 = .ok (.bipush 13, 2) := o16 (a := 13) (byt_of hR_unwinds_b0 (j := 51) rfl) (byt_of hR_unwinds_b0 (j := 52) rfl) rfl
theorem dR_unwinds_53 : decode (mcc mR_unwinds) 53 = .ok (.if_icmp .eq 9, 3) := o159 (a := 0) (b := 9) (byt_of hR_unwinds_b0 (j := 53) rfl) (byt_of hR_unwinds_b0 (j := 54) rfl) (byt_of hR_unwinds_b0 (j := 55) rfl) rfl
theorem dR_unwinds_56 : decode (mcc mR_unwinds) 56 = .ok (.iload_n 2, 1) := o28 (byt_of hR_unwinds_b0 (j := 56) rfl)
theorem dR_unwinds_57 : decode (mcc mR_unwinds) 57 = .ok (.bipush 19, 2) := o16 (a := 19) (byt_of hR_unwinds_b0 (j := 57) rfl) (byt_of hR_unwinds_b0 (j := 58) rfl) rfl
theorem dR_unwinds_59 : decode (mcc mR_unwinds) 59 = .ok (.if_icmp .ne 7, 3) := o160 (a := 0) (b := 7) (byt_of hR_unwinds_b0 (j := 59) rfl) (byt_of hR_unwinds_b0 (j := 60) rfl) (byt_of hR_unwinds_b0 (j := 61) rfl) rfl
theorem dR_unwinds_62 : decode (mcc mR_unwinds) 62 = .ok (.iconst 1, 1) := o4 (byt_of hR_unwinds_b0 (j := 62) rfl)
theorem dR_unwinds_63 : decode (mcc mR_unwinds) 63 = .ok (.goto 4, 3) := o167 (a := 0) (b := 4) (byt_of hR_unwinds_b0 (j := 63) rfl) (byt_of hR_unwinds_b0 (j := 64) rfl) (byt_of hR_unwinds_b0 (j := 65) rfl) rfl
theorem dR_unwinds_66 : decode (mcc mR_unwinds) 66 = .ok (.iconst 0, 1) := o3 (byt_of hR_unwinds_b0 (j := 66) rfl)
theorem dR_unwinds_67 : decode (mcc mR_unwinds) 67 = .ok (.isub, 1) := o100 (byt_of hR_unwinds_b0 (j := 67) rfl)
theorem dR_unwinds_68 : decode (mcc mR_unwinds) 68 = .ok (.putfield 196, 3) := o181 (a := 0) (b := 196) (byt_of hR_unwinds_b0 (j := 68) rfl) (byt_of hR_unwinds_b0 (j := 69) rfl) (byt_of hR_unwinds_b0 (j := 70) rfl) rfl
theorem dR_unwinds_71 : decode (mcc mR_unwinds) 71 = .ok (.aload_n 0, 1) := o42 (byt_of hR_unwinds_b0 (j := 71) rfl)
theorem dR_unwinds_72 : decode (mcc mR_unwinds) 72 = .ok (.iload_n 2, 1) := o28 (byt_of hR_unwinds_b0 (j := 72) rfl)
theorem dR_unwinds_73 : decode (mcc mR_unwinds) 73 = .ok (.invokevirtual 199, 3) := o182 (a := 0) (b := 199) (byt_of hR_unwinds_b0 (j := 73) rfl) (byt_of hR_unwinds_b0 (j := 74) rfl) (byt_of hR_unwinds_b0 (j := 75) rfl) rfl
theorem dR_unwinds_76 : decode (mcc mR_unwinds) 76 = .ok (.goto (-76), 3) := o167 (a := 255) (b := 180) (byt_of hR_unwinds_b0 (j := 76) rfl) (byt_of hR_unwinds_b0 (j := 77) rfl) (byt_of hR_unwinds_b0 (j := 78) rfl) rfl
theorem dR_unwinds_79 : decode (mcc mR_unwinds) 79 = .ok (.return_, 1) := o177 (byt_of hR_unwinds_b0 (j := 79) rfl)
def bR_holds_b0 : List Nat := [42, 180, 0, 113, 42, 180, 0, 190, 27, 79, 42, 89, 180, 0, 190, 4, 96, 181, 0, 190, 177]
theorem hR_holds_b0 : BL (mcc mR_holds) 0 bR_holds_b0 := by decide +kernel
theorem dR_holds_0 : decode (mcc mR_holds) 0 = .ok (.aload_n 0, 1) := o42 (byt_of hR_holds_b0 (j := 0) rfl)
theorem dR_holds_1 : decode (mcc mR_holds) 1 = .ok (.getfield 113, 3) := o180 (a := 0) (b := 113) (byt_of hR_holds_b0 (j := 1) rfl) (byt_of hR_holds_b0 (j := 2) rfl) (byt_of hR_holds_b0 (j := 3) rfl) rfl
theorem dR_holds_4 : decode (mcc mR_holds) 4 = .ok (.aload_n 0, 1) := o42 (byt_of hR_holds_b0 (j := 4) rfl)
theorem dR_holds_5 : decode (mcc mR_holds) 5 = .ok (.getfield 190, 3) := o180 (a := 0) (b := 190) (byt_of hR_holds_b0 (j := 5) rfl) (byt_of hR_holds_b0 (j := 6) rfl) (byt_of hR_holds_b0 (j := 7) rfl) rfl
theorem dR_holds_8 : decode (mcc mR_holds) 8 = .ok (.iload_n 1, 1) := o27 (byt_of hR_holds_b0 (j := 8) rfl)
theorem dR_holds_9 : decode (mcc mR_holds) 9 = .ok (.iastore, 1) := o79 (byt_of hR_holds_b0 (j := 9) rfl)
theorem dR_holds_10 : decode (mcc mR_holds) 10 = .ok (.aload_n 0, 1) := o42 (byt_of hR_holds_b0 (j := 10) rfl)
theorem dR_holds_11 : decode (mcc mR_holds) 11 = .ok (.dup, 1) := o89 (byt_of hR_holds_b0 (j := 11) rfl)
theorem dR_holds_12 : decode (mcc mR_holds) 12 = .ok (.getfield 190, 3) := o180 (a := 0) (b := 190) (byt_of hR_holds_b0 (j := 12) rfl) (byt_of hR_holds_b0 (j := 13) rfl) (byt_of hR_holds_b0 (j := 14) rfl) rfl
theorem dR_holds_15 : decode (mcc mR_holds) 15 = .ok (.iconst 1, 1) := o4 (byt_of hR_holds_b0 (j := 15) rfl)
theorem dR_holds_16 : decode (mcc mR_holds) 16 = .ok (.iadd, 1) := o96 (byt_of hR_holds_b0 (j := 16) rfl)
theorem dR_holds_17 : decode (mcc mR_holds) 17 = .ok (.putfield 190, 3) := o181 (a := 0) (b := 190) (byt_of hR_holds_b0 (j := 17) rfl) (byt_of hR_holds_b0 (j := 18) rfl) (byt_of hR_holds_b0 (j := 19) rfl) rfl
theorem dR_holds_20 : decode (mcc mR_holds) 20 = .ok (.return_, 1) := o177 (byt_of hR_holds_b0 (j := 20) rfl)
def bR_opensOne_b0 : List Nat := [42, 180, 0, 196, 8, 160, 0, 5, 3, 172, 42, 89, 180, 0, 196, 4, 96, 181, 0, 196, 42, 27, 182, 0, 203, 4, 172]
theorem hR_opensOne_b0 : BL (mcc mR_opensOne) 0 bR_opensOne_b0 := by decide +kernel
theorem dR_opensOne_0 : decode (mcc mR_opensOne) 0 = .ok (.aload_n 0, 1) := o42 (byt_of hR_opensOne_b0 (j := 0) rfl)
theorem dR_opensOne_1 : decode (mcc mR_opensOne) 1 = .ok (.getfield 196, 3) := o180 (a := 0) (b := 196) (byt_of hR_opensOne_b0 (j := 1) rfl) (byt_of hR_opensOne_b0 (j := 2) rfl) (byt_of hR_opensOne_b0 (j := 3) rfl) rfl
theorem dR_opensOne_4 : decode (mcc mR_opensOne) 4 = .ok (.iconst 5, 1) := o8 (byt_of hR_opensOne_b0 (j := 4) rfl)
theorem dR_opensOne_5 : decode (mcc mR_opensOne) 5 = .ok (.if_icmp .ne 5, 3) := o160 (a := 0) (b := 5) (byt_of hR_opensOne_b0 (j := 5) rfl) (byt_of hR_opensOne_b0 (j := 6) rfl) (byt_of hR_opensOne_b0 (j := 7) rfl) rfl
theorem dR_opensOne_8 : decode (mcc mR_opensOne) 8 = .ok (.iconst 0, 1) := o3 (byt_of hR_opensOne_b0 (j := 8) rfl)
theorem dR_opensOne_9 : decode (mcc mR_opensOne) 9 = .ok (.ireturn, 1) := o172 (byt_of hR_opensOne_b0 (j := 9) rfl)
theorem dR_opensOne_10 : decode (mcc mR_opensOne) 10 = .ok (.aload_n 0, 1) := o42 (byt_of hR_opensOne_b0 (j := 10) rfl)
theorem dR_opensOne_11 : decode (mcc mR_opensOne) 11 = .ok (.dup, 1) := o89 (byt_of hR_opensOne_b0 (j := 11) rfl)
theorem dR_opensOne_12 : decode (mcc mR_opensOne) 12 = .ok (.getfield 196, 3) := o180 (a := 0) (b := 196) (byt_of hR_opensOne_b0 (j := 12) rfl) (byt_of hR_opensOne_b0 (j := 13) rfl) (byt_of hR_opensOne_b0 (j := 14) rfl) rfl
theorem dR_opensOne_15 : decode (mcc mR_opensOne) 15 = .ok (.iconst 1, 1) := o4 (byt_of hR_opensOne_b0 (j := 15) rfl)
theorem dR_opensOne_16 : decode (mcc mR_opensOne) 16 = .ok (.iadd, 1) := o96 (byt_of hR_opensOne_b0 (j := 16) rfl)
theorem dR_opensOne_17 : decode (mcc mR_opensOne) 17 = .ok (.putfield 196, 3) := o181 (a := 0) (b := 196) (byt_of hR_opensOne_b0 (j := 17) rfl) (byt_of hR_opensOne_b0 (j := 18) rfl) (byt_of hR_opensOne_b0 (j := 19) rfl) rfl
theorem dR_opensOne_20 : decode (mcc mR_opensOne) 20 = .ok (.aload_n 0, 1) := o42 (byt_of hR_opensOne_b0 (j := 20) rfl)
theorem dR_opensOne_21 : decode (mcc mR_opensOne) 21 = .ok (.iload_n 1, 1) := o27 (byt_of hR_opensOne_b0 (j := 21) rfl)
theorem dR_opensOne_22 : decode (mcc mR_opensOne) 22 = .ok (.invokevirtual 203, 3) := o182 (a := 0) (b := 203) (byt_of hR_opensOne_b0 (j := 22) rfl) (byt_of hR_opensOne_b0 (j := 23) rfl) (byt_of hR_opensOne_b0 (j := 24) rfl) rfl
theorem dR_opensOne_25 : decode (mcc mR_opensOne) 25 = .ok (.iconst 1, 1) := o4 (byt_of hR_opensOne_b0 (j := 25) rfl)
theorem dR_opensOne_26 : decode (mcc mR_opensOne) 26 = .ok (.ireturn, 1) := o172 (byt_of hR_opensOne_b0 (j := 26) rfl)
def bR_between_b0 : List Nat := [42, 27, 184, 0, 193, 7, 160, 0, 7, 8, 167, 0, 7, 27, 184, 0, 193, 182, 0, 206, 27, 184, 0, 193, 7, 160, 0, 30, 42, 180, 0, 190, 158, 0, 23, 42, 180, 0, 113, 42, 180, 0, 190, 4, 100, 46, 184, 0, 193, 7, 160, 0, 5, 3, 172, 42, 27, 182, 0, 203, 4, 172]
theorem hR_between_b0 : BL (mcc mR_between) 0 bR_between_b0 := by decide +kernel
theorem dR_between_0 : decode (mcc mR_between) 0 = .ok (.aload_n 0, 1) := o42 (byt_of hR_between_b0 (j := 0) rfl)
theorem dR_between_1 : decode (mcc mR_between) 1 = .ok (.iload_n 1, 1) := o27 (byt_of hR_between_b0 (j := 1) rfl)
theorem dR_between_2 : decode (mcc mR_between) 2 = .ok (.invokestatic 193, 3) := o184 (a := 0) (b := 193) (byt_of hR_between_b0 (j := 2) rfl) (byt_of hR_between_b0 (j := 3) rfl) (byt_of hR_between_b0 (j := 4) rfl) rfl
theorem dR_between_5 : decode (mcc mR_between) 5 = .ok (.iconst 4, 1) := o7 (byt_of hR_between_b0 (j := 5) rfl)
theorem dR_between_6 : decode (mcc mR_between) 6 = .ok (.if_icmp .ne 7, 3) := o160 (a := 0) (b := 7) (byt_of hR_between_b0 (j := 6) rfl) (byt_of hR_between_b0 (j := 7) rfl) (byt_of hR_between_b0 (j := 8) rfl) rfl
theorem dR_between_9 : decode (mcc mR_between) 9 = .ok (.iconst 5, 1) := o8 (byt_of hR_between_b0 (j := 9) rfl)
theorem dR_between_10 : decode (mcc mR_between) 10 = .ok (.goto 7, 3) := o167 (a := 0) (b := 7) (byt_of hR_between_b0 (j := 10) rfl) (byt_of hR_between_b0 (j := 11) rfl) (byt_of hR_between_b0 (j := 12) rfl) rfl
theorem dR_between_13 : decode (mcc mR_between) 13 = .ok (.iload_n 1, 1) := o27 (byt_of hR_between_b0 (j := 13) rfl)
theorem dR_between_14 : decode (mcc mR_between) 14 = .ok (.invokestatic 193, 3) := o184 (a := 0) (b := 193) (byt_of hR_between_b0 (j := 14) rfl) (byt_of hR_between_b0 (j := 15) rfl) (byt_of hR_between_b0 (j := 16) rfl) rfl
theorem dR_between_17 : decode (mcc mR_between) 17 = .ok (.invokevirtual 206, 3) := o182 (a := 0) (b := 206) (byt_of hR_between_b0 (j := 17) rfl) (byt_of hR_between_b0 (j := 18) rfl) (byt_of hR_between_b0 (j := 19) rfl) rfl
theorem dR_between_20 : decode (mcc mR_between) 20 = .ok (.iload_n 1, 1) := o27 (byt_of hR_between_b0 (j := 20) rfl)
theorem dR_between_21 : decode (mcc mR_between) 21 = .ok (.invokestatic 193, 3) := o184 (a := 0) (b := 193) (byt_of hR_between_b0 (j := 21) rfl) (byt_of hR_between_b0 (j := 22) rfl) (byt_of hR_between_b0 (j := 23) rfl) rfl
theorem dR_between_24 : decode (mcc mR_between) 24 = .ok (.iconst 4, 1) := o7 (byt_of hR_between_b0 (j := 24) rfl)
theorem dR_between_25 : decode (mcc mR_between) 25 = .ok (.if_icmp .ne 30, 3) := o160 (a := 0) (b := 30) (byt_of hR_between_b0 (j := 25) rfl) (byt_of hR_between_b0 (j := 26) rfl) (byt_of hR_between_b0 (j := 27) rfl) rfl
theorem dR_between_28 : decode (mcc mR_between) 28 = .ok (.aload_n 0, 1) := o42 (byt_of hR_between_b0 (j := 28) rfl)
theorem dR_between_29 : decode (mcc mR_between) 29 = .ok (.getfield 190, 3) := o180 (a := 0) (b := 190) (byt_of hR_between_b0 (j := 29) rfl) (byt_of hR_between_b0 (j := 30) rfl) (byt_of hR_between_b0 (j := 31) rfl) rfl
theorem dR_between_32 : decode (mcc mR_between) 32 = .ok (.ifCond .le 23, 3) := o158 (a := 0) (b := 23) (byt_of hR_between_b0 (j := 32) rfl) (byt_of hR_between_b0 (j := 33) rfl) (byt_of hR_between_b0 (j := 34) rfl) rfl
theorem dR_between_35 : decode (mcc mR_between) 35 = .ok (.aload_n 0, 1) := o42 (byt_of hR_between_b0 (j := 35) rfl)
theorem dR_between_36 : decode (mcc mR_between) 36 = .ok (.getfield 113, 3) := o180 (a := 0) (b := 113) (byt_of hR_between_b0 (j := 36) rfl) (byt_of hR_between_b0 (j := 37) rfl) (byt_of hR_between_b0 (j := 38) rfl) rfl
theorem dR_between_39 : decode (mcc mR_between) 39 = .ok (.aload_n 0, 1) := o42 (byt_of hR_between_b0 (j := 39) rfl)
theorem dR_between_40 : decode (mcc mR_between) 40 = .ok (.getfield 190, 3) := o180 (a := 0) (b := 190) (byt_of hR_between_b0 (j := 40) rfl) (byt_of hR_between_b0 (j := 41) rfl) (byt_of hR_between_b0 (j := 42) rfl) rfl
theorem dR_between_43 : decode (mcc mR_between) 43 = .ok (.iconst 1, 1) := o4 (byt_of hR_between_b0 (j := 43) rfl)
theorem dR_between_44 : decode (mcc mR_between) 44 = .ok (.isub, 1) := o100 (byt_of hR_between_b0 (j := 44) rfl)
theorem dR_between_45 : decode (mcc mR_between) 45 = .ok (.iaload, 1) := o46 (byt_of hR_between_b0 (j := 45) rfl)
theorem dR_between_46 : decode (mcc mR_between) 46 = .ok (.invokestatic 193, 3) := o184 (a := 0) (b := 193) (byt_of hR_between_b0 (j := 46) rfl) (byt_of hR_between_b0 (j := 47) rfl) (byt_of hR_between_b0 (j := 48) rfl) rfl
theorem dR_between_49 : decode (mcc mR_between) 49 = .ok (.iconst 4, 1) := o7 (byt_of hR_between_b0 (j := 49) rfl)
theorem dR_between_50 : decode (mcc mR_between) 50 = .ok (.if_icmp .ne 5, 3) := o160 (a := 0) (b := 5) (byt_of hR_between_b0 (j := 50) rfl) (byt_of hR_between_b0 (j := 51) rfl) (byt_of hR_between_b0 (j := 52) rfl) rfl
theorem dR_between_53 : decode (mcc mR_between) 53 = .ok (.iconst 0, 1) := o3 (byt_of hR_between_b0 (j := 53) rfl)
theorem dR_between_54 : decode (mcc mR_between) 54 = .ok (.ireturn, 1) := o172 (byt_of hR_between_b0 (j := 54) rfl)
theorem dR_between_55 : decode (mcc mR_between) 55 = .ok (.aload_n 0, 1) := o42 (byt_of hR_between_b0 (j := 55) rfl)
theorem dR_between_56 : decode (mcc mR_between) 56 = .ok (.iload_n 1, 1) := o27 (byt_of hR_between_b0 (j := 56) rfl)
theorem dR_between_57 : decode (mcc mR_between) 57 = .ok (.invokevirtual 203, 3) := o182 (a := 0) (b := 203) (byt_of hR_between_b0 (j := 57) rfl) (byt_of hR_between_b0 (j := 58) rfl) (byt_of hR_between_b0 (j := 59) rfl) rfl
theorem dR_between_60 : decode (mcc mR_between) 60 = .ok (.iconst 1, 1) := o4 (byt_of hR_between_b0 (j := 60) rfl)
theorem dR_between_61 : decode (mcc mR_between) 61 = .ok (.ireturn, 1) := o172 (byt_of hR_between_b0 (j := 61) rfl)
def bR_signOf_b0 : List Nat := [42, 180, 0, 177, 7, 160, 0, 8, 16, 11, 167, 0, 87, 42, 180, 0, 177, 8, 160, 0, 8, 16, 12, 167, 0, 74, 42, 180, 0, 177, 16, 60, 160, 0, 8, 16, 14, 167, 0, 60, 42, 180, 0, 177, 16, 61, 160, 0, 8, 16, 15, 167, 0, 46, 42, 180, 0, 177, 16, 43, 160, 0, 8, 16, 16, 167, 0, 32, 42, 180, 0, 177, 16, 45, 160, 0, 8, 16, 17, 167, 0, 18, 42, 180, 0, 177, 16, 42, 160, 0, 8, 16, 18, 167, 0, 4, 2, 172]
theorem hR_signOf_b0 : BL (mcc mR_signOf) 0 bR_signOf_b0 := by decide +kernel
theorem dR_signOf_0 : decode (mcc mR_signOf) 0 = .ok (.aload_n 0, 1) := o42 (byt_of hR_signOf_b0 (j := 0) rfl)
theorem dR_signOf_1 : decode (mcc mR_signOf) 1 = .ok (.getfield 177, 3) := o180 (a := 0) (b := 177) (byt_of hR_signOf_b0 (j := 1) rfl) (byt_of hR_signOf_b0 (j := 2) rfl) (byt_of hR_signOf_b0 (j := 3) rfl) rfl
theorem dR_signOf_4 : decode (mcc mR_signOf) 4 = .ok (.iconst 4, 1) := o7 (byt_of hR_signOf_b0 (j := 4) rfl)
theorem dR_signOf_5 : decode (mcc mR_signOf) 5 = .ok (.if_icmp .ne 8, 3) := o160 (a := 0) (b := 8) (byt_of hR_signOf_b0 (j := 5) rfl) (byt_of hR_signOf_b0 (j := 6) rfl) (byt_of hR_signOf_b0 (j := 7) rfl) rfl
theorem dR_signOf_8 : decode (mcc mR_signOf) 8 = .ok (.bipush 11, 2) := o16 (a := 11) (byt_of hR_signOf_b0 (j := 8) rfl) (byt_of hR_signOf_b0 (j := 9) rfl) rfl
theorem dR_signOf_10 : decode (mcc mR_signOf) 10 = .ok (.goto 87, 3) := o167 (a := 0) (b := 87) (byt_of hR_signOf_b0 (j := 10) rfl) (byt_of hR_signOf_b0 (j := 11) rfl) (byt_of hR_signOf_b0 (j := 12) rfl) rfl
theorem dR_signOf_13 : decode (mcc mR_signOf) 13 = .ok (.aload_n 0, 1) := o42 (byt_of hR_signOf_b0 (j := 13) rfl)
theorem dR_signOf_14 : decode (mcc mR_signOf) 14 = .ok (.getfield 177, 3) := o180 (a := 0) (b := 177) (byt_of hR_signOf_b0 (j := 14) rfl) (byt_of hR_signOf_b0 (j := 15) rfl) (byt_of hR_signOf_b0 (j := 16) rfl) rfl
theorem dR_signOf_17 : decode (mcc mR_signOf) 17 = .ok (.iconst 5, 1) := o8 (byt_of hR_signOf_b0 (j := 17) rfl)
theorem dR_signOf_18 : decode (mcc mR_signOf) 18 = .ok (.if_icmp .ne 8, 3) := o160 (a := 0) (b := 8) (byt_of hR_signOf_b0 (j := 18) rfl) (byt_of hR_signOf_b0 (j := 19) rfl) (byt_of hR_signOf_b0 (j := 20) rfl) rfl
theorem dR_signOf_21 : decode (mcc mR_signOf) 21 = .ok (.bipush 12, 2) := o16 (a := 12) (byt_of hR_signOf_b0 (j := 21) rfl) (byt_of hR_signOf_b0 (j := 22) rfl) rfl
theorem dR_signOf_23 : decode (mcc mR_signOf) 23 = .ok (.goto 74, 3) := o167 (a := 0) (b := 74) (byt_of hR_signOf_b0 (j := 23) rfl) (byt_of hR_signOf_b0 (j := 24) rfl) (byt_of hR_signOf_b0 (j := 25) rfl) rfl
theorem dR_signOf_26 : decode (mcc mR_signOf) 26 = .ok (.aload_n 0, 1) := o42 (byt_of hR_signOf_b0 (j := 26) rfl)
theorem dR_signOf_27 : decode (mcc mR_signOf) 27 = .ok (.getfield 177, 3) := o180 (a := 0) (b := 177) (byt_of hR_signOf_b0 (j := 27) rfl) (byt_of hR_signOf_b0 (j := 28) rfl) (byt_of hR_signOf_b0 (j := 29) rfl) rfl
theorem dR_signOf_30 : decode (mcc mR_signOf) 30 = .ok (.bipush 60, 2) := o16 (a := 60) (byt_of hR_signOf_b0 (j := 30) rfl) (byt_of hR_signOf_b0 (j := 31) rfl) rfl
theorem dR_signOf_32 : decode (mcc mR_signOf) 32 = .ok (.if_icmp .ne 8, 3) := o160 (a := 0) (b := 8) (byt_of hR_signOf_b0 (j := 32) rfl) (byt_of hR_signOf_b0 (j := 33) rfl) (byt_of hR_signOf_b0 (j := 34) rfl) rfl
theorem dR_signOf_35 : decode (mcc mR_signOf) 35 = .ok (.bipush 14, 2) := o16 (a := 14) (byt_of hR_signOf_b0 (j := 35) rfl) (byt_of hR_signOf_b0 (j := 36) rfl) rfl
theorem dR_signOf_37 : decode (mcc mR_signOf) 37 = .ok (.goto 60, 3) := o167 (a := 0) (b := 60) (byt_of hR_signOf_b0 (j := 37) rfl) (byt_of hR_signOf_b0 (j := 38) rfl) (byt_of hR_signOf_b0 (j := 39) rfl) rfl
theorem dR_signOf_40 : decode (mcc mR_signOf) 40 = .ok (.aload_n 0, 1) := o42 (byt_of hR_signOf_b0 (j := 40) rfl)
theorem dR_signOf_41 : decode (mcc mR_signOf) 41 = .ok (.getfield 177, 3) := o180 (a := 0) (b := 177) (byt_of hR_signOf_b0 (j := 41) rfl) (byt_of hR_signOf_b0 (j := 42) rfl) (byt_of hR_signOf_b0 (j := 43) rfl) rfl
theorem dR_signOf_44 : decode (mcc mR_signOf) 44 = .ok (.bipush 61, 2) := o16 (a := 61) (byt_of hR_signOf_b0 (j := 44) rfl) (byt_of hR_signOf_b0 (j := 45) rfl) rfl
theorem dR_signOf_46 : decode (mcc mR_signOf) 46 = .ok (.if_icmp .ne 8, 3) := o160 (a := 0) (b := 8) (byt_of hR_signOf_b0 (j := 46) rfl) (byt_of hR_signOf_b0 (j := 47) rfl) (byt_of hR_signOf_b0 (j := 48) rfl) rfl
theorem dR_signOf_49 : decode (mcc mR_signOf) 49 = .ok (.bipush 15, 2) := o16 (a := 15) (byt_of hR_signOf_b0 (j := 49) rfl) (byt_of hR_signOf_b0 (j := 50) rfl) rfl
theorem dR_signOf_51 : decode (mcc mR_signOf) 51 = .ok (.goto 46, 3) := o167 (a := 0) (b := 46) (byt_of hR_signOf_b0 (j := 51) rfl) (byt_of hR_signOf_b0 (j := 52) rfl) (byt_of hR_signOf_b0 (j := 53) rfl) rfl
theorem dR_signOf_54 : decode (mcc mR_signOf) 54 = .ok (.aload_n 0, 1) := o42 (byt_of hR_signOf_b0 (j := 54) rfl)
theorem dR_signOf_55 : decode (mcc mR_signOf) 55 = .ok (.getfield 177, 3) := o180 (a := 0) (b := 177) (byt_of hR_signOf_b0 (j := 55) rfl) (byt_of hR_signOf_b0 (j := 56) rfl) (byt_of hR_signOf_b0 (j := 57) rfl) rfl
theorem dR_signOf_58 : decode (mcc mR_signOf) 58 = .ok (.bipush 43, 2) := o16 (a := 43) (byt_of hR_signOf_b0 (j := 58) rfl) (byt_of hR_signOf_b0 (j := 59) rfl) rfl
theorem dR_signOf_60 : decode (mcc mR_signOf) 60 = .ok (.if_icmp .ne 8, 3) := o160 (a := 0) (b := 8) (byt_of hR_signOf_b0 (j := 60) rfl) (byt_of hR_signOf_b0 (j := 61) rfl) (byt_of hR_signOf_b0 (j := 62) rfl) rfl
theorem dR_signOf_63 : decode (mcc mR_signOf) 63 = .ok (.bipush 16, 2) := o16 (a := 16) (byt_of hR_signOf_b0 (j := 63) rfl) (byt_of hR_signOf_b0 (j := 64) rfl) rfl
theorem dR_signOf_65 : decode (mcc mR_signOf) 65 = .ok (.goto 32, 3) := o167 (a := 0) (b := 32) (byt_of hR_signOf_b0 (j := 65) rfl) (byt_of hR_signOf_b0 (j := 66) rfl) (byt_of hR_signOf_b0 (j := 67) rfl) rfl
theorem dR_signOf_68 : decode (mcc mR_signOf) 68 = .ok (.aload_n 0, 1) := o42 (byt_of hR_signOf_b0 (j := 68) rfl)
theorem dR_signOf_69 : decode (mcc mR_signOf) 69 = .ok (.getfield 177, 3) := o180 (a := 0) (b := 177) (byt_of hR_signOf_b0 (j := 69) rfl) (byt_of hR_signOf_b0 (j := 70) rfl) (byt_of hR_signOf_b0 (j := 71) rfl) rfl
theorem dR_signOf_72 : decode (mcc mR_signOf) 72 = .ok (.bipush 45, 2) := o16 (a := 45) (byt_of hR_signOf_b0 (j := 72) rfl) (byt_of hR_signOf_b0 (j := 73) rfl) rfl
theorem dR_signOf_74 : decode (mcc mR_signOf) 74 = .ok (.if_icmp .ne 8, 3) := o160 (a := 0) (b := 8) (byt_of hR_signOf_b0 (j := 74) rfl) (byt_of hR_signOf_b0 (j := 75) rfl) (byt_of hR_signOf_b0 (j := 76) rfl) rfl
theorem dR_signOf_77 : decode (mcc mR_signOf) 77 = .ok (.bipush 17, 2) := o16 (a := 17) (byt_of hR_signOf_b0 (j := 77) rfl) (byt_of hR_signOf_b0 (j := 78) rfl) rfl
theorem dR_signOf_79 : decode (mcc mR_signOf) 79 = .ok (.goto 18, 3) := o167 (a := 0) (b := 18) (byt_of hR_signOf_b0 (j := 79) rfl) (byt_of hR_signOf_b0 (j := 80) rfl) (byt_of hR_signOf_b0 (j := 81) rfl) rfl
theorem dR_signOf_82 : decode (mcc mR_signOf) 82 = .ok (.aload_n 0, 1) := o42 (byt_of hR_signOf_b0 (j := 82) rfl)
theorem dR_signOf_83 : decode (mcc mR_signOf) 83 = .ok (.getfield 177, 3) := o180 (a := 0) (b := 177) (byt_of hR_signOf_b0 (j := 83) rfl) (byt_of hR_signOf_b0 (j := 84) rfl) (byt_of hR_signOf_b0 (j := 85) rfl) rfl
theorem dR_signOf_86 : decode (mcc mR_signOf) 86 = .ok (.bipush 42, 2) := o16 (a := 42) (byt_of hR_signOf_b0 (j := 86) rfl) (byt_of hR_signOf_b0 (j := 87) rfl) rfl
theorem dR_signOf_88 : decode (mcc mR_signOf) 88 = .ok (.if_icmp .ne 8, 3) := o160 (a := 0) (b := 8) (byt_of hR_signOf_b0 (j := 88) rfl) (byt_of hR_signOf_b0 (j := 89) rfl) (byt_of hR_signOf_b0 (j := 90) rfl) rfl
theorem dR_signOf_91 : decode (mcc mR_signOf) 91 = .ok (.bipush 18, 2) := o16 (a := 18) (byt_of hR_signOf_b0 (j := 91) rfl) (byt_of hR_signOf_b0 (j := 92) rfl) rfl
theorem dR_signOf_93 : decode (mcc mR_signOf) 93 = .ok (.goto 4, 3) := o167 (a := 0) (b := 4) (byt_of hR_signOf_b0 (j := 93) rfl) (byt_of hR_signOf_b0 (j := 94) rfl) (byt_of hR_signOf_b0 (j := 95) rfl) rfl
def bR_signOf_b1 : List Nat := [2, 172]
theorem hR_signOf_b1 : BL (mcc mR_signOf) 96 bR_signOf_b1 := by decide +kernel
theorem dR_signOf_96 : decode (mcc mR_signOf) 96 = .ok (.iconst (-1), 1) := o2 (byt_of hR_signOf_b1 (j := 0) rfl)
theorem dR_signOf_97 : decode (mcc mR_signOf) 97 = .ok (.ireturn, 1) := o172 (byt_of hR_signOf_b1 (j := 1) rfl)
def bR_eRead_b0 : List Nat := [42, 3, 181, 0, 190, 42, 3, 181, 0, 196, 4, 60, 4, 61, 42, 182, 0, 209, 27, 153, 0, 131, 42, 180, 0, 177, 4, 159, 0, 11, 42, 180, 0, 177, 5, 160, 0, 40, 42, 42, 180, 0, 177, 4, 160, 0, 13, 18, 212, 42, 180, 0, 180, 96, 167, 0, 7, 42, 180, 0, 180, 182, 0, 199, 42, 16, 7, 182, 0, 206, 3, 60, 167, 255, 198, 42, 180, 0, 177, 16, 6, 160, 0, 18, 28, 153, 0, 14, 42, 16, 13, 182, 0, 213, 154, 255, 176, 3, 172, 42, 180, 0]
theorem hR_eRead_b0 : BL (mcc mR_eRead) 0 bR_eRead_b0 := by decide +kernel
theorem dR_eRead_0 : decode (mcc mR_eRead) 0 = .ok (.aload_n 0, 1) := o42 (byt_of hR_eRead_b0 (j := 0) rfl)
theorem dR_eRead_1 : decode (mcc mR_eRead) 1 = .ok (.iconst 0, 1) := o3 (byt_of hR_eRead_b0 (j := 1) rfl)
theorem dR_eRead_2 : decode (mcc mR_eRead) 2 = .ok (.putfield 190, 3) := o181 (a := 0) (b := 190) (byt_of hR_eRead_b0 (j := 2) rfl) (byt_of hR_eRead_b0 (j := 3) rfl) (byt_of hR_eRead_b0 (j := 4) rfl) rfl
theorem dR_eRead_5 : decode (mcc mR_eRead) 5 = .ok (.aload_n 0, 1) := o42 (byt_of hR_eRead_b0 (j := 5) rfl)
theorem dR_eRead_6 : decode (mcc mR_eRead) 6 = .ok (.iconst 0, 1) := o3 (byt_of hR_eRead_b0 (j := 6) rfl)
theorem dR_eRead_7 : decode (mcc mR_eRead) 7 = .ok (.putfield 196, 3) := o181 (a := 0) (b := 196) (byt_of hR_eRead_b0 (j := 7) rfl) (byt_of hR_eRead_b0 (j := 8) rfl) (byt_of hR_eRead_b0 (j := 9) rfl) rfl
theorem dR_eRead_10 : decode (mcc mR_eRead) 10 = .ok (.iconst 1, 1) := o4 (byt_of hR_eRead_b0 (j := 10) rfl)
theorem dR_eRead_11 : decode (mcc mR_eRead) 11 = .ok (.istore_n 1, 1) := o60 (byt_of hR_eRead_b0 (j := 11) rfl)
theorem dR_eRead_12 : decode (mcc mR_eRead) 12 = .ok (.iconst 1, 1) := o4 (byt_of hR_eRead_b0 (j := 12) rfl)
theorem dR_eRead_13 : decode (mcc mR_eRead) 13 = .ok (.istore_n 2, 1) := o61 (byt_of hR_eRead_b0 (j := 13) rfl)
theorem dR_eRead_14 : decode (mcc mR_eRead) 14 = .ok (.aload_n 0, 1) := o42 (byt_of hR_eRead_b0 (j := 14) rfl)
theorem dR_eRead_15 : decode (mcc mR_eRead) 15 = .ok (.invokevirtual 209, 3) := o182 (a := 0) (b := 209) (byt_of hR_eRead_b0 (j := 15) rfl) (byt_of hR_eRead_b0 (j := 16) rfl) (byt_of hR_eRead_b0 (j := 17) rfl) rfl
theorem dR_eRead_18 : decode (mcc mR_eRead) 18 = .ok (.iload_n 1, 1) := o27 (byt_of hR_eRead_b0 (j := 18) rfl)
theorem dR_eRead_19 : decode (mcc mR_eRead) 19 = .ok (.ifCond .eq 131, 3) := o153 (a := 0) (b := 131) (byt_of hR_eRead_b0 (j := 19) rfl) (byt_of hR_eRead_b0 (j := 20) rfl) (byt_of hR_eRead_b0 (j := 21) rfl) rfl
theorem dR_eRead_22 : decode (mcc mR_eRead) 22 = .ok (.aload_n 0, 1) := o42 (byt_of hR_eRead_b0 (j := 22) rfl)
theorem dR_eRead_23 : decode (mcc mR_eRead) 23 = .ok (.getfield 177, 3) := o180 (a := 0) (b := 177) (byt_of hR_eRead_b0 (j := 23) rfl) (byt_of hR_eRead_b0 (j := 24) rfl) (byt_of hR_eRead_b0 (j := 25) rfl) rfl
theorem dR_eRead_26 : decode (mcc mR_eRead) 26 = .ok (.iconst 1, 1) := o4 (byt_of hR_eRead_b0 (j := 26) rfl)
theorem dR_eRead_27 : decode (mcc mR_eRead) 27 = .ok (.if_icmp .eq 11, 3) := o159 (a := 0) (b := 11) (byt_of hR_eRead_b0 (j := 27) rfl) (byt_of hR_eRead_b0 (j := 28) rfl) (byt_of hR_eRead_b0 (j := 29) rfl) rfl
theorem dR_eRead_30 : decode (mcc mR_eRead) 30 = .ok (.aload_n 0, 1) := o42 (byt_of hR_eRead_b0 (j := 30) rfl)
theorem dR_eRead_31 : decode (mcc mR_eRead) 31 = .ok (.getfield 177, 3) := o180 (a := 0) (b := 177) (byt_of hR_eRead_b0 (j := 31) rfl) (byt_of hR_eRead_b0 (j := 32) rfl) (byt_of hR_eRead_b0 (j := 33) rfl) rfl
theorem dR_eRead_34 : decode (mcc mR_eRead) 34 = .ok (.iconst 2, 1) := o5 (byt_of hR_eRead_b0 (j := 34) rfl)
theorem dR_eRead_35 : decode (mcc mR_eRead) 35 = .ok (.if_icmp .ne 40, 3) := o160 (a := 0) (b := 40) (byt_of hR_eRead_b0 (j := 35) rfl) (byt_of hR_eRead_b0 (j := 36) rfl) (byt_of hR_eRead_b0 (j := 37) rfl) rfl
theorem dR_eRead_38 : decode (mcc mR_eRead) 38 = .ok (.aload_n 0, 1) := o42 (byt_of hR_eRead_b0 (j := 38) rfl)
theorem dR_eRead_39 : decode (mcc mR_eRead) 39 = .ok (.aload_n 0, 1) := o42 (byt_of hR_eRead_b0 (j := 39) rfl)
theorem dR_eRead_40 : decode (mcc mR_eRead) 40 = .ok (.getfield 177, 3) := o180 (a := 0) (b := 177) (byt_of hR_eRead_b0 (j := 40) rfl) (byt_of hR_eRead_b0 (j := 41) rfl) (byt_of hR_eRead_b0 (j := 42) rfl) rfl
theorem dR_eRead_43 : decode (mcc mR_eRead) 43 = .ok (.iconst 1, 1) := o4 (byt_of hR_eRead_b0 (j := 43) rfl)
theorem dR_eRead_44 : decode (mcc mR_eRead) 44 = .ok (.if_icmp .ne 13, 3) := o160 (a := 0) (b := 13) (byt_of hR_eRead_b0 (j := 44) rfl) (byt_of hR_eRead_b0 (j := 45) rfl) (byt_of hR_eRead_b0 (j := 46) rfl) rfl
theorem dR_eRead_47 : decode (mcc mR_eRead) 47 = .ok (.ldc 212, 2) := o18 (a := 212) (byt_of hR_eRead_b0 (j := 47) rfl) (byt_of hR_eRead_b0 (j := 48) rfl)
theorem dR_eRead_49 : decode (mcc mR_eRead) 49 = .ok (.aload_n 0, 1) := o42 (byt_of hR_eRead_b0 (j := 49) rfl)
theorem dR_eRead_50 : decode (mcc mR_eRead) 50 = .ok (.getfield 180, 3) := o180 (a := 0) (b := 180) (byt_of hR_eRead_b0 (j := 50) rfl) (byt_of hR_eRead_b0 (j := 51) rfl) (byt_of hR_eRead_b0 (j := 52) rfl) rfl
theorem dR_eRead_53 : decode (mcc mR_eRead) 53 = .ok (.iadd, 1) := o96 (byt_of hR_eRead_b0 (j := 53) rfl)
theorem dR_eRead_54 : decode (mcc mR_eRead) 54 = .ok (.goto 7, 3) := o167 (a := 0) (b := 7) (byt_of hR_eRead_b0 (j := 54) rfl) (byt_of hR_eRead_b0 (j := 55) rfl) (byt_of hR_eRead_b0 (j := 56) rfl) rfl
theorem dR_eRead_57 : decode (mcc mR_eRead) 57 = .ok (.aload_n 0, 1) := o42 (byt_of hR_eRead_b0 (j := 57) rfl)
theorem dR_eRead_58 : decode (mcc mR_eRead) 58 = .ok (.getfield 180, 3) := o180 (a := 0) (b := 180) (byt_of hR_eRead_b0 (j := 58) rfl) (byt_of hR_eRead_b0 (j := 59) rfl) (byt_of hR_eRead_b0 (j := 60) rfl) rfl
theorem dR_eRead_61 : decode (mcc mR_eRead) 61 = .ok (.invokevirtual 199, 3) := o182 (a := 0) (b := 199) (byt_of hR_eRead_b0 (j := 61) rfl) (byt_of hR_eRead_b0 (j := 62) rfl) (byt_of hR_eRead_b0 (j := 63) rfl) rfl
theorem dR_eRead_64 : decode (mcc mR_eRead) 64 = .ok (.aload_n 0, 1) := o42 (byt_of hR_eRead_b0 (j := 64) rfl)
theorem dR_eRead_65 : decode (mcc mR_eRead) 65 = .ok (.bipush 7, 2) := o16 (a := 7) (byt_of hR_eRead_b0 (j := 65) rfl) (byt_of hR_eRead_b0 (j := 66) rfl) rfl
theorem dR_eRead_67 : decode (mcc mR_eRead) 67 = .ok (.invokevirtual 206, 3) := o182 (a := 0) (b := 206) (byt_of hR_eRead_b0 (j := 67) rfl) (byt_of hR_eRead_b0 (j := 68) rfl) (byt_of hR_eRead_b0 (j := 69) rfl) rfl
theorem dR_eRead_70 : decode (mcc mR_eRead) 70 = .ok (.iconst 0, 1) := o3 (byt_of hR_eRead_b0 (j := 70) rfl)
theorem dR_eRead_71 : decode (mcc mR_eRead) 71 = .ok (.istore_n 1, 1) := o60 (byt_of hR_eRead_b0 (j := 71) rfl)
theorem dR_eRead_72 : decode (mcc mR_eRead) 72 = .ok (.goto (-58), 3) := o167 (a := 255) (b := 198) (byt_of hR_eRead_b0 (j := 72) rfl) (byt_of hR_eRead_b0 (j := 73) rfl) (byt_of hR_eRead_b0 (j := 74) rfl) rfl
theorem dR_eRead_75 : decode (mcc mR_eRead) 75 = .ok (.aload_n 0, 1) := o42 (byt_of hR_eRead_b0 (j := 75) rfl)
theorem dR_eRead_76 : decode (mcc mR_eRead) 76 = .ok (.getfield 177, 3) := o180 (a := 0) (b := 177) (byt_of hR_eRead_b0 (j := 76) rfl) (byt_of hR_eRead_b0 (j := 77) rfl) (byt_of hR_eRead_b0 (j := 78) rfl) rfl
theorem dR_eRead_79 : decode (mcc mR_eRead) 79 = .ok (.bipush 6, 2) := o16 (a := 6) (byt_of hR_eRead_b0 (j := 79) rfl) (byt_of hR_eRead_b0 (j := 80) rfl) rfl
theorem dR_eRead_81 : decode (mcc mR_eRead) 81 = .ok (.if_icmp .ne 18, 3) := o160 (a := 0) (b := 18) (byt_of hR_eRead_b0 (j := 81) rfl) (byt_of hR_eRead_b0 (j := 82) rfl) (byt_of hR_eRead_b0 (j := 83) rfl) rfl
theorem dR_eRead_84 : decode (mcc mR_eRead) 84 = .ok (.iload_n 2, 1) := o28 (byt_of hR_eRead_b0 (j := 84) rfl)
theorem dR_eRead_85 : decode (mcc mR_eRead) 85 = .ok (.ifCond .eq 14, 3) := o153 (a := 0) (b := 14) (byt_of hR_eRead_b0 (j := 85) rfl) (byt_of hR_eRead_b0 (j := 86) rfl) (byt_of hR_eRead_b0 (j := 87) rfl) rfl
theorem dR_eRead_88 : decode (mcc mR_eRead) 88 = .ok (.aload_n 0, 1) := o42 (byt_of hR_eRead_b0 (j := 88) rfl)
theorem dR_eRead_89 : decode (mcc mR_eRead) 89 = .ok (.bipush 13, 2) := o16 (a := 13) (byt_of hR_eRead_b0 (j := 89) rfl) (byt_of hR_eRead_b0 (j := 90) rfl) rfl
theorem dR_eRead_91 : decode (mcc mR_eRead) 91 = .ok (.invokevirtual 213, 3) := o182 (a := 0) (b := 213) (byt_of hR_eRead_b0 (j := 91) rfl) (byt_of hR_eRead_b0 (j := 92) rfl) (byt_of hR_eRead_b0 (j := 93) rfl) rfl
theorem dR_eRead_94 : decode (mcc mR_eRead) 94 = .ok (.ifCond .ne (-80), 3) := o154 (a := 255) (b := 176) (byt_of hR_eRead_b0 (j := 94) rfl) (byt_of hR_eRead_b0 (j := 95) rfl) (byt_of hR_eRead_b0 (j := 96) rfl) rfl
def bR_eRead_b1 : List Nat := [176, 3, 172, 42, 180, 0, 177, 16, 45, 160, 0, 19, 42, 16, 19, 182, 0, 213, 154, 0, 5, 3, 172, 3, 61, 167, 255, 149, 42, 180, 0, 177, 16, 40, 160, 0, 18, 42, 3, 182, 0, 213, 154, 0, 5, 3, 172, 4, 61, 167, 255, 125, 3, 172, 42, 180, 0, 177, 16, 59, 160, 0, 21, 42, 4, 182, 0, 206, 42, 180, 0, 190, 154, 0, 7, 4, 167, 0, 4, 3, 172, 42, 180, 0, 177, 16, 41, 160, 0, 46, 42, 4, 182, 0, 206, 42, 180, 0, 190, 154, 0, 5]
theorem hR_eRead_b1 : BL (mcc mR_eRead) 96 bR_eRead_b1 := by decide +kernel
theorem dR_eRead_97 : decode (mcc mR_eRead) 97 = .ok (.iconst 0, 1) := o3 (byt_of hR_eRead_b1 (j := 1) rfl)
theorem dR_eRead_98 : decode (mcc mR_eRead) 98 = .ok (.ireturn, 1) := o172 (byt_of hR_eRead_b1 (j := 2) rfl)
theorem dR_eRead_99 : decode (mcc mR_eRead) 99 = .ok (.aload_n 0, 1) := o42 (byt_of hR_eRead_b1 (j := 3) rfl)
theorem dR_eRead_100 : decode (mcc mR_eRead) 100 = .ok (.getfield 177, 3) := o180 (a := 0) (b := 177) (byt_of hR_eRead_b1 (j := 4) rfl) (byt_of hR_eRead_b1 (j := 5) rfl) (byt_of hR_eRead_b1 (j := 6) rfl) rfl
theorem dR_eRead_103 : decode (mcc mR_eRead) 103 = .ok (.bipush 45, 2) := o16 (a := 45) (byt_of hR_eRead_b1 (j := 7) rfl) (byt_of hR_eRead_b1 (j := 8) rfl) rfl
theorem dR_eRead_105 : decode (mcc mR_eRead) 105 = .ok (.if_icmp .ne 19, 3) := o160 (a := 0) (b := 19) (byt_of hR_eRead_b1 (j := 9) rfl) (byt_of hR_eRead_b1 (j := 10) rfl) (byt_of hR_eRead_b1 (j := 11) rfl) rfl
theorem dR_eRead_108 : decode (mcc mR_eRead) 108 = .ok (.aload_n 0, 1) := o42 (byt_of hR_eRead_b1 (j := 12) rfl)
theorem dR_eRead_109 : decode (mcc mR_eRead) 109 = .ok (.bipush 19, 2) := o16 (a := 19) (byt_of hR_eRead_b1 (j := 13) rfl) (byt_of hR_eRead_b1 (j := 14) rfl) rfl
theorem dR_eRead_111 : decode (mcc mR_eRead) 111 = .ok (.invokevirtual 213, 3) := o182 (a := 0) (b := 213) (byt_of hR_eRead_b1 (j := 15) rfl) (byt_of hR_eRead_b1 (j := 16) rfl) (byt_of hR_eRead_b1 (j := 17) rfl) rfl
theorem dR_eRead_114 : decode (mcc mR_eRead) 114 = .ok (.ifCond .ne 5, 3) := o154 (a := 0) (b := 5) (byt_of hR_eRead_b1 (j := 18) rfl) (byt_of hR_eRead_b1 (j := 19) rfl) (byt_of hR_eRead_b1 (j := 20) rfl) rfl
theorem dR_eRead_117 : decode (mcc mR_eRead) 117 = .ok (.iconst 0, 1) := o3 (byt_of hR_eRead_b1 (j := 21) rfl)
theorem dR_eRead_118 : decode (mcc mR_eRead) 118 = .ok (.ireturn, 1) := o172 (byt_of hR_eRead_b1 (j := 22) rfl)
theorem dR_eRead_119 : decode (mcc mR_eRead) 119 = .ok (.iconst 0, 1) := o3 (byt_of hR_eRead_b1 (j := 23) rfl)
theorem dR_eRead_120 : decode (mcc mR_eRead) 120 = .ok (.istore_n 2, 1) := o61 (byt_of hR_eRead_b1 (j := 24) rfl)
theorem dR_eRead_121 : decode (mcc mR_eRead) 121 = .ok (.goto (-107), 3) := o167 (a := 255) (b := 149) (byt_of hR_eRead_b1 (j := 25) rfl) (byt_of hR_eRead_b1 (j := 26) rfl) (byt_of hR_eRead_b1 (j := 27) rfl) rfl
theorem dR_eRead_124 : decode (mcc mR_eRead) 124 = .ok (.aload_n 0, 1) := o42 (byt_of hR_eRead_b1 (j := 28) rfl)
theorem dR_eRead_125 : decode (mcc mR_eRead) 125 = .ok (.getfield 177, 3) := o180 (a := 0) (b := 177) (byt_of hR_eRead_b1 (j := 29) rfl) (byt_of hR_eRead_b1 (j := 30) rfl) (byt_of hR_eRead_b1 (j := 31) rfl) rfl
theorem dR_eRead_128 : decode (mcc mR_eRead) 128 = .ok (.bipush 40, 2) := o16 (a := 40) (byt_of hR_eRead_b1 (j := 32) rfl) (byt_of hR_eRead_b1 (j := 33) rfl) rfl
theorem dR_eRead_130 : decode (mcc mR_eRead) 130 = .ok (.if_icmp .ne 18, 3) := o160 (a := 0) (b := 18) (byt_of hR_eRead_b1 (j := 34) rfl) (byt_of hR_eRead_b1 (j := 35) rfl) (byt_of hR_eRead_b1 (j := 36) rfl) rfl
theorem dR_eRead_133 : decode (mcc mR_eRead) 133 = .ok (.aload_n 0, 1) := o42 (byt_of hR_eRead_b1 (j := 37) rfl)
theorem dR_eRead_134 : decode (mcc mR_eRead) 134 = .ok (.iconst 0, 1) := o3 (byt_of hR_eRead_b1 (j := 38) rfl)
theorem dR_eRead_135 : decode (mcc mR_eRead) 135 = .ok (.invokevirtual 213, 3) := o182 (a := 0) (b := 213) (byt_of hR_eRead_b1 (j := 39) rfl) (byt_of hR_eRead_b1 (j := 40) rfl) (byt_of hR_eRead_b1 (j := 41) rfl) rfl
theorem dR_eRead_138 : decode (mcc mR_eRead) 138 = .ok (.ifCond .ne 5, 3) := o154 (a := 0) (b := 5) (byt_of hR_eRead_b1 (j := 42) rfl) (byt_of hR_eRead_b1 (j := 43) rfl) (byt_of hR_eRead_b1 (j := 44) rfl) rfl
theorem dR_eRead_141 : decode (mcc mR_eRead) 141 = .ok (.iconst 0, 1) := o3 (byt_of hR_eRead_b1 (j := 45) rfl)
theorem dR_eRead_142 : decode (mcc mR_eRead) 142 = .ok (.ireturn, 1) := o172 (byt_of hR_eRead_b1 (j := 46) rfl)
theorem dR_eRead_143 : decode (mcc mR_eRead) 143 = .ok (.iconst 1, 1) := o4 (byt_of hR_eRead_b1 (j := 47) rfl)
theorem dR_eRead_144 : decode (mcc mR_eRead) 144 = .ok (.istore_n 2, 1) := o61 (byt_of hR_eRead_b1 (j := 48) rfl)
theorem dR_eRead_145 : decode (mcc mR_eRead) 145 = .ok (.goto (-131), 3) := o167 (a := 255) (b := 125) (byt_of hR_eRead_b1 (j := 49) rfl) (byt_of hR_eRead_b1 (j := 50) rfl) (byt_of hR_eRead_b1 (j := 51) rfl) rfl
theorem dR_eRead_148 : decode (mcc mR_eRead) 148 = .ok (.iconst 0, 1) := o3 (byt_of hR_eRead_b1 (j := 52) rfl)
theorem dR_eRead_149 : decode (mcc mR_eRead) 149 = .ok (.ireturn, 1) := o172 (byt_of hR_eRead_b1 (j := 53) rfl)
theorem dR_eRead_150 : decode (mcc mR_eRead) 150 = .ok (.aload_n 0, 1) := o42 (byt_of hR_eRead_b1 (j := 54) rfl)
theorem dR_eRead_151 : decode (mcc mR_eRead) 151 = .ok (.getfield 177, 3) := o180 (a := 0) (b := 177) (byt_of hR_eRead_b1 (j := 55) rfl) (byt_of hR_eRead_b1 (j := 56) rfl) (byt_of hR_eRead_b1 (j := 57) rfl) rfl
theorem dR_eRead_154 : decode (mcc mR_eRead) 154 = .ok (.bipush 59, 2) := o16 (a := 59) (byt_of hR_eRead_b1 (j := 58) rfl) (byt_of hR_eRead_b1 (j := 59) rfl) rfl
theorem dR_eRead_156 : decode (mcc mR_eRead) 156 = .ok (.if_icmp .ne 21, 3) := o160 (a := 0) (b := 21) (byt_of hR_eRead_b1 (j := 60) rfl) (byt_of hR_eRead_b1 (j := 61) rfl) (byt_of hR_eRead_b1 (j := 62) rfl) rfl
theorem dR_eRead_159 : decode (mcc mR_eRead) 159 = .ok (.aload_n 0, 1) := o42 (byt_of hR_eRead_b1 (j := 63) rfl)
theorem dR_eRead_160 : decode (mcc mR_eRead) 160 = .ok (.iconst 1, 1) := o4 (byt_of hR_eRead_b1 (j := 64) rfl)
theorem dR_eRead_161 : decode (mcc mR_eRead) 161 = .ok (.invokevirtual 206, 3) := o182 (a := 0) (b := 206) (byt_of hR_eRead_b1 (j := 65) rfl) (byt_of hR_eRead_b1 (j := 66) rfl) (byt_of hR_eRead_b1 (j := 67) rfl) rfl
theorem dR_eRead_164 : decode (mcc mR_eRead) 164 = .ok (.aload_n 0, 1) := o42 (byt_of hR_eRead_b1 (j := 68) rfl)
theorem dR_eRead_165 : decode (mcc mR_eRead) 165 = .ok (.getfield 190, 3) := o180 (a := 0) (b := 190) (byt_of hR_eRead_b1 (j := 69) rfl) (byt_of hR_eRead_b1 (j := 70) rfl) (byt_of hR_eRead_b1 (j := 71) rfl) rfl
theorem dR_eRead_168 : decode (mcc mR_eRead) 168 = .ok (.ifCond .ne 7, 3) := o154 (a := 0) (b := 7) (byt_of hR_eRead_b1 (j := 72) rfl) (byt_of hR_eRead_b1 (j := 73) rfl) (byt_of hR_eRead_b1 (j := 74) rfl) rfl
theorem dR_eRead_171 : decode (mcc mR_eRead) 171 = .ok (.iconst 1, 1) := o4 (byt_of hR_eRead_b1 (j := 75) rfl)
theorem dR_eRead_172 : decode (mcc mR_eRead) 172 = .ok (.goto 4, 3) := o167 (a := 0) (b := 4) (byt_of hR_eRead_b1 (j := 76) rfl) (byt_of hR_eRead_b1 (j := 77) rfl) (byt_of hR_eRead_b1 (j := 78) rfl) rfl
theorem dR_eRead_175 : decode (mcc mR_eRead) 175 = .ok (.iconst 0, 1) := o3 (byt_of hR_eRead_b1 (j := 79) rfl)
theorem dR_eRead_176 : decode (mcc mR_eRead) 176 = .ok (.ireturn, 1) := o172 (byt_of hR_eRead_b1 (j := 80) rfl)
theorem dR_eRead_177 : decode (mcc mR_eRead) 177 = .ok (.aload_n 0, 1) := o42 (byt_of hR_eRead_b1 (j := 81) rfl)
theorem dR_eRead_178 : decode (mcc mR_eRead) 178 = .ok (.getfield 177, 3) := o180 (a := 0) (b := 177) (byt_of hR_eRead_b1 (j := 82) rfl) (byt_of hR_eRead_b1 (j := 83) rfl) (byt_of hR_eRead_b1 (j := 84) rfl) rfl
theorem dR_eRead_181 : decode (mcc mR_eRead) 181 = .ok (.bipush 41, 2) := o16 (a := 41) (byt_of hR_eRead_b1 (j := 85) rfl) (byt_of hR_eRead_b1 (j := 86) rfl) rfl
theorem dR_eRead_183 : decode (mcc mR_eRead) 183 = .ok (.if_icmp .ne 46, 3) := o160 (a := 0) (b := 46) (byt_of hR_eRead_b1 (j := 87) rfl) (byt_of hR_eRead_b1 (j := 88) rfl) (byt_of hR_eRead_b1 (j := 89) rfl) rfl
theorem dR_eRead_186 : decode (mcc mR_eRead) 186 = .ok (.aload_n 0, 1) := o42 (byt_of hR_eRead_b1 (j := 90) rfl)
theorem dR_eRead_187 : decode (mcc mR_eRead) 187 = .ok (.iconst 1, 1) := o4 (byt_of hR_eRead_b1 (j := 91) rfl)
theorem dR_eRead_188 : decode (mcc mR_eRead) 188 = .ok (.invokevirtual 206, 3) := o182 (a := 0) (b := 206) (byt_of hR_eRead_b1 (j := 92) rfl) (byt_of hR_eRead_b1 (j := 93) rfl) (byt_of hR_eRead_b1 (j := 94) rfl) rfl
theorem dR_eRead_191 : decode (mcc mR_eRead) 191 = .ok (.aload_n 0, 1) := o42 (byt_of hR_eRead_b1 (j := 95) rfl)
def bR_eRead_b2 : List Nat := [180, 0, 190, 154, 0, 5, 3, 172, 42, 89, 180, 0, 190, 4, 100, 181, 0, 190, 42, 89, 180, 0, 196, 4, 100, 181, 0, 196, 42, 16, 7, 182, 0, 206, 167, 255, 44, 42, 182, 0, 216, 62, 29, 2, 159, 0, 11, 42, 29, 182, 0, 219, 154, 0, 5, 3, 172, 4, 60, 29, 16, 12, 163, 0, 7, 4, 167, 0, 4, 3, 61, 167, 255, 7]
theorem hR_eRead_b2 : BL (mcc mR_eRead) 192 bR_eRead_b2 := by decide +kernel
theorem dR_eRead_192 : decode (mcc mR_eRead) 192 = .ok (.getfield 190, 3) := o180 (a := 0) (b := 190) (byt_of hR_eRead_b2 (j := 0) rfl) (byt_of hR_eRead_b2 (j := 1) rfl) (byt_of hR_eRead_b2 (j := 2) rfl) rfl
theorem dR_eRead_195 : decode (mcc mR_eRead) 195 = .ok (.ifCond .ne 5, 3) := o154 (a := 0) (b := 5) (byt_of hR_eRead_b2 (j := 3) rfl) (byt_of hR_eRead_b2 (j := 4) rfl) (byt_of hR_eRead_b2 (j := 5) rfl) rfl
theorem dR_eRead_198 : decode (mcc mR_eRead) 198 = .ok (.iconst 0, 1) := o3 (byt_of hR_eRead_b2 (j := 6) rfl)
theorem dR_eRead_199 : decode (mcc mR_eRead) 199 = .ok (.ireturn, 1) := o172 (byt_of hR_eRead_b2 (j := 7) rfl)
theorem dR_eRead_200 : decode (mcc mR_eRead) 200 = .ok (.aload_n 0, 1) := o42 (byt_of hR_eRead_b2 (j := 8) rfl)
theorem dR_eRead_201 : decode (mcc mR_eRead) 201 = .ok (.dup, 1) := o89 (byt_of hR_eRead_b2 (j := 9) rfl)
theorem dR_eRead_202 : decode (mcc mR_eRead) 202 = .ok (.getfield 190, 3) := o180 (a := 0) (b := 190) (byt_of hR_eRead_b2 (j := 10) rfl) (byt_of hR_eRead_b2 (j := 11) rfl) (byt_of hR_eRead_b2 (j := 12) rfl) rfl
theorem dR_eRead_205 : decode (mcc mR_eRead) 205 = .ok (.iconst 1, 1) := o4 (byt_of hR_eRead_b2 (j := 13) rfl)
theorem dR_eRead_206 : decode (mcc mR_eRead) 206 = .ok (.isub, 1) := o100 (byt_of hR_eRead_b2 (j := 14) rfl)
theorem dR_eRead_207 : decode (mcc mR_eRead) 207 = .ok (.putfield 190, 3) := o181 (a := 0) (b := 190) (byt_of hR_eRead_b2 (j := 15) rfl) (byt_of hR_eRead_b2 (j := 16) rfl) (byt_of hR_eRead_b2 (j := 17) rfl) rfl
theorem dR_eRead_210 : decode (mcc mR_eRead) 210 = .ok (.aload_n 0, 1) := o42 (byt_of hR_eRead_b2 (j := 18) rfl)
theorem dR_eRead_211 : decode (mcc mR_eRead) 211 = .ok (.dup, 1) := o89 (byt_of hR_eRead_b2 (j := 19) rfl)
theorem dR_eRead_212 : decode (mcc mR_eRead) 212 = .ok (.getfield 196, 3) := o180 (a := 0) (b := 196) (byt_of hR_eRead_b2 (j := 20) rfl) (byt_of hR_eRead_b2 (j := 21) rfl) (byt_of hR_eRead_b2 (j := 22) rfl) rfl
theorem dR_eRead_215 : decode (mcc mR_eRead) 215 = .ok (.iconst 1, 1) := o4 (byt_of hR_eRead_b2 (j := 23) rfl)
theorem dR_eRead_216 : decode (mcc mR_eRead) 216 = .ok (.isub, 1) := o100 (byt_of hR_eRead_b2 (j := 24) rfl)
theorem dR_eRead_217 : decode (mcc mR_eRead) 217 = .ok (.putfield 196, 3) := o181 (a := 0) (b := 196) (byt_of hR_eRead_b2 (j := 25) rfl) (byt_of hR_eRead_b2 (j := 26) rfl) (byt_of hR_eRead_b2 (j := 27) rfl) rfl
theorem dR_eRead_220 : decode (mcc mR_eRead) 220 = .ok (.aload_n 0, 1) := o42 (byt_of hR_eRead_b2 (j := 28) rfl)
theorem dR_eRead_221 : decode (mcc mR_eRead) 221 = .ok (.bipush 7, 2) := o16 (a := 7) (byt_of hR_eRead_b2 (j := 29) rfl) (byt_of hR_eRead_b2 (j := 30) rfl) rfl
theorem dR_eRead_223 : decode (mcc mR_eRead) 223 = .ok (.invokevirtual 206, 3) := o182 (a := 0) (b := 206) (byt_of hR_eRead_b2 (j := 31) rfl) (byt_of hR_eRead_b2 (j := 32) rfl) (byt_of hR_eRead_b2 (j := 33) rfl) rfl
theorem dR_eRead_226 : decode (mcc mR_eRead) 226 = .ok (.goto (-212), 3) := o167 (a := 255) (b := 44) (byt_of hR_eRead_b2 (j := 34) rfl) (byt_of hR_eRead_b2 (j := 35) rfl) (byt_of hR_eRead_b2 (j := 36) rfl) rfl
theorem dR_eRead_229 : decode (mcc mR_eRead) 229 = .ok (.aload_n 0, 1) := o42 (byt_of hR_eRead_b2 (j := 37) rfl)
theorem dR_eRead_230 : decode (mcc mR_eRead) 230 = .ok (.invokevirtual 216, 3) := o182 (a := 0) (b := 216) (byt_of hR_eRead_b2 (j := 38) rfl) (byt_of hR_eRead_b2 (j := 39) rfl) (byt_of hR_eRead_b2 (j := 40) rfl) rfl
theorem dR_eRead_233 : decode (mcc mR_eRead) 233 = .ok (.istore_n 3, 1) := o62 (byt_of hR_eRead_b2 (j := 41) rfl)
theorem dR_eRead_234 : decode (mcc mR_eRead) 234 = .ok (.iload_n 3, 1) := o29 (byt_of hR_eRead_b2 (j := 42) rfl)
theorem dR_eRead_235 : decode (mcc mR_eRead) 235 = .ok (.iconst (-1), 1) := o2 (byt_of hR_eRead_b2 (j := 43) rfl)
theorem dR_eRead_236 : decode (mcc mR_eRead) 236 = .ok (.if_icmp .eq 11, 3) := o159 (a := 0) (b := 11) (byt_of hR_eRead_b2 (j := 44) rfl) (byt_of hR_eRead_b2 (j := 45) rfl) (byt_of hR_eRead_b2 (j := 46) rfl) rfl
theorem dR_eRead_239 : decode (mcc mR_eRead) 239 = .ok (.aload_n 0, 1) := o42 (byt_of hR_eRead_b2 (j := 47) rfl)
theorem dR_eRead_240 : decode (mcc mR_eRead) 240 = .ok (.iload_n 3, 1) := o29 (byt_of hR_eRead_b2 (j := 48) rfl)
theorem dR_eRead_241 : decode (mcc mR_eRead) 241 = .ok (.invokevirtual 219, 3) := o182 (a := 0) (b := 219) (byt_of hR_eRead_b2 (j := 49) rfl) (byt_of hR_eRead_b2 (j := 50) rfl) (byt_of hR_eRead_b2 (j := 51) rfl) rfl
theorem dR_eRead_244 : decode (mcc mR_eRead) 244 = .ok (.ifCond .ne 5, 3) := o154 (a := 0) (b := 5) (byt_of hR_eRead_b2 (j := 52) rfl) (byt_of hR_eRead_b2 (j := 53) rfl) (byt_of hR_eRead_b2 (j := 54) rfl) rfl
theorem dR_eRead_247 : decode (mcc mR_eRead) 247 = .ok (.iconst 0, 1) := o3 (byt_of hR_eRead_b2 (j := 55) rfl)
theorem dR_eRead_248 : decode (mcc mR_eRead) 248 = .ok (.ireturn, 1) := o172 (byt_of hR_eRead_b2 (j := 56) rfl)
theorem dR_eRead_249 : decode (mcc mR_eRead) 249 = .ok (.iconst 1, 1) := o4 (byt_of hR_eRead_b2 (j := 57) rfl)
theorem dR_eRead_250 : decode (mcc mR_eRead) 250 = .ok (.istore_n 1, 1) := o60 (byt_of hR_eRead_b2 (j := 58) rfl)
theorem dR_eRead_251 : decode (mcc mR_eRead) 251 = .ok (.iload_n 3, 1) := o29 (byt_of hR_eRead_b2 (j := 59) rfl)
theorem dR_eRead_252 : decode (mcc mR_eRead) 252 = .ok (.bipush 12, 2) := o16 (a := 12) (byt_of hR_eRead_b2 (j := 60) rfl) (byt_of hR_eRead_b2 (j := 61) rfl) rfl
theorem dR_eRead_254 : decode (mcc mR_eRead) 254 = .ok (.if_icmp .gt 7, 3) := o163 (a := 0) (b := 7) (byt_of hR_eRead_b2 (j := 62) rfl) (byt_of hR_eRead_b2 (j := 63) rfl) (byt_of hR_eRead_b2 (j := 64) rfl) rfl
theorem dR_eRead_257 : decode (mcc mR_eRead) 257 = .ok (.iconst 1, 1) := o4 (byt_of hR_eRead_b2 (j := 65) rfl)
theorem dR_eRead_258 : decode (mcc mR_eRead) 258 = .ok (.goto 4, 3) := o167 (a := 0) (b := 4) (byt_of hR_eRead_b2 (j := 66) rfl) (byt_of hR_eRead_b2 (j := 67) rfl) (byt_of hR_eRead_b2 (j := 68) rfl) rfl
theorem dR_eRead_261 : decode (mcc mR_eRead) 261 = .ok (.iconst 0, 1) := o3 (byt_of hR_eRead_b2 (j := 69) rfl)
theorem dR_eRead_262 : decode (mcc mR_eRead) 262 = .ok (.istore_n 2, 1) := o61 (byt_of hR_eRead_b2 (j := 70) rfl)
theorem dR_eRead_263 : decode (mcc mR_eRead) 263 = .ok (.goto (-249), 3) := o167 (a := 255) (b := 7) (byt_of hR_eRead_b2 (j := 71) rfl) (byt_of hR_eRead_b2 (j := 72) rfl) (byt_of hR_eRead_b2 (j := 73) rfl) rfl
def bR_text_b0 : List Nat := [42, 180, 0, 161, 16, 6, 160, 0, 6, 16, 252, 172, 42, 3, 181, 0, 171, 42, 3, 181, 0, 187, 4, 60, 3, 61, 28, 6, 162, 0, 73, 27, 153, 0, 69, 42, 182, 0, 209, 42, 180, 0, 177, 6, 160, 0, 15, 42, 180, 0, 180, 28, 160, 0, 7, 4, 167, 0, 4, 3, 60, 42, 180, 0, 74, 7, 42, 180, 0, 161, 104, 28, 96, 42, 180, 0, 187, 79, 27, 153, 0, 14, 42, 182, 0, 222, 153, 0, 7, 4, 167, 0, 4, 3, 60, 132, 2, 1, 167, 255, 184, 27]
theorem hR_text_b0 : BL (mcc mR_text) 0 bR_text_b0 := by decide +kernel
theorem dR_text_0 : decode (mcc mR_text) 0 = .ok (.aload_n 0, 1) := o42 (byt_of hR_text_b0 (j := 0) rfl)
theorem dR_text_1 : decode (mcc mR_text) 1 = .ok (.getfield 161, 3) := o180 (a := 0) (b := 161) (byt_of hR_text_b0 (j := 1) rfl) (byt_of hR_text_b0 (j := 2) rfl) (byt_of hR_text_b0 (j := 3) rfl) rfl
theorem dR_text_4 : decode (mcc mR_text) 4 = .ok (.bipush 6, 2) := o16 (a := 6) (byt_of hR_text_b0 (j := 4) rfl) (byt_of hR_text_b0 (j := 5) rfl) rfl
theorem dR_text_6 : decode (mcc mR_text) 6 = .ok (.if_icmp .ne 6, 3) := o160 (a := 0) (b := 6) (byt_of hR_text_b0 (j := 6) rfl) (byt_of hR_text_b0 (j := 7) rfl) (byt_of hR_text_b0 (j := 8) rfl) rfl
theorem dR_text_9 : decode (mcc mR_text) 9 = .ok (.bipush (-4), 2) := o16 (a := 252) (byt_of hR_text_b0 (j := 9) rfl) (byt_of hR_text_b0 (j := 10) rfl) rfl
theorem dR_text_11 : decode (mcc mR_text) 11 = .ok (.ireturn, 1) := o172 (byt_of hR_text_b0 (j := 11) rfl)
theorem dR_text_12 : decode (mcc mR_text) 12 = .ok (.aload_n 0, 1) := o42 (byt_of hR_text_b0 (j := 12) rfl)
theorem dR_text_13 : decode (mcc mR_text) 13 = .ok (.iconst 0, 1) := o3 (byt_of hR_text_b0 (j := 13) rfl)
theorem dR_text_14 : decode (mcc mR_text) 14 = .ok (.putfield 171, 3) := o181 (a := 0) (b := 171) (byt_of hR_text_b0 (j := 14) rfl) (byt_of hR_text_b0 (j := 15) rfl) (byt_of hR_text_b0 (j := 16) rfl) rfl
theorem dR_text_17 : decode (mcc mR_text) 17 = .ok (.aload_n 0, 1) := o42 (byt_of hR_text_b0 (j := 17) rfl)
theorem dR_text_18 : decode (mcc mR_text) 18 = .ok (.iconst 0, 1) := o3 (byt_of hR_text_b0 (j := 18) rfl)
theorem dR_text_19 : decode (mcc mR_text) 19 = .ok (.putfield 187, 3) := o181 (a := 0) (b := 187) (byt_of hR_text_b0 (j := 19) rfl) (byt_of hR_text_b0 (j := 20) rfl) (byt_of hR_text_b0 (j := 21) rfl) rfl
theorem dR_text_22 : decode (mcc mR_text) 22 = .ok (.iconst 1, 1) := o4 (byt_of hR_text_b0 (j := 22) rfl)
theorem dR_text_23 : decode (mcc mR_text) 23 = .ok (.istore_n 1, 1) := o60 (byt_of hR_text_b0 (j := 23) rfl)
theorem dR_text_24 : decode (mcc mR_text) 24 = .ok (.iconst 0, 1) := o3 (byt_of hR_text_b0 (j := 24) rfl)
theorem dR_text_25 : decode (mcc mR_text) 25 = .ok (.istore_n 2, 1) := o61 (byt_of hR_text_b0 (j := 25) rfl)
theorem dR_text_26 : decode (mcc mR_text) 26 = .ok (.iload_n 2, 1) := o28 (byt_of hR_text_b0 (j := 26) rfl)
theorem dR_text_27 : decode (mcc mR_text) 27 = .ok (.iconst 3, 1) := o6 (byt_of hR_text_b0 (j := 27) rfl)
theorem dR_text_28 : decode (mcc mR_text) 28 = .ok (.if_icmp .ge 73, 3) := o162 (a := 0) (b := 73) (byt_of hR_text_b0 (j := 28) rfl) (byt_of hR_text_b0 (j := 29) rfl) (byt_of hR_text_b0 (j := 30) rfl) rfl
theorem dR_text_31 : decode (mcc mR_text) 31 = .ok (.iload_n 1, 1) := o27 (byt_of hR_text_b0 (j := 31) rfl)
theorem dR_text_32 : decode (mcc mR_text) 32 = .ok (.ifCond .eq 69, 3) := o153 (a := 0) (b := 69) (byt_of hR_text_b0 (j := 32) rfl) (byt_of hR_text_b0 (j := 33) rfl) (byt_of hR_text_b0 (j := 34) rfl) rfl
theorem dR_text_35 : decode (mcc mR_text) 35 = .ok (.aload_n 0, 1) := o42 (byt_of hR_text_b0 (j := 35) rfl)
theorem dR_text_36 : decode (mcc mR_text) 36 = .ok (.invokevirtual 209, 3) := o182 (a := 0) (b := 209) (byt_of hR_text_b0 (j := 36) rfl) (byt_of hR_text_b0 (j := 37) rfl) (byt_of hR_text_b0 (j := 38) rfl) rfl
theorem dR_text_39 : decode (mcc mR_text) 39 = .ok (.aload_n 0, 1) := o42 (byt_of hR_text_b0 (j := 39) rfl)
theorem dR_text_40 : decode (mcc mR_text) 40 = .ok (.getfield 177, 3) := o180 (a := 0) (b := 177) (byt_of hR_text_b0 (j := 40) rfl) (byt_of hR_text_b0 (j := 41) rfl) (byt_of hR_text_b0 (j := 42) rfl) rfl
theorem dR_text_43 : decode (mcc mR_text) 43 = .ok (.iconst 3, 1) := o6 (byt_of hR_text_b0 (j := 43) rfl)
theorem dR_text_44 : decode (mcc mR_text) 44 = .ok (.if_icmp .ne 15, 3) := o160 (a := 0) (b := 15) (byt_of hR_text_b0 (j := 44) rfl) (byt_of hR_text_b0 (j := 45) rfl) (byt_of hR_text_b0 (j := 46) rfl) rfl
theorem dR_text_47 : decode (mcc mR_text) 47 = .ok (.aload_n 0, 1) := o42 (byt_of hR_text_b0 (j := 47) rfl)
theorem dR_text_48 : decode (mcc mR_text) 48 = .ok (.getfield 180, 3) := o180 (a := 0) (b := 180) (byt_of hR_text_b0 (j := 48) rfl) (byt_of hR_text_b0 (j := 49) rfl) (byt_of hR_text_b0 (j := 50) rfl) rfl
theorem dR_text_51 : decode (mcc mR_text) 51 = .ok (.iload_n 2, 1) := o28 (byt_of hR_text_b0 (j := 51) rfl)
theorem dR_text_52 : decode (mcc mR_text) 52 = .ok (.if_icmp .ne 7, 3) := o160 (a := 0) (b := 7) (byt_of hR_text_b0 (j := 52) rfl) (byt_of hR_text_b0 (j := 53) rfl) (byt_of hR_text_b0 (j := 54) rfl) rfl
theorem dR_text_55 : decode (mcc mR_text) 55 = .ok (.iconst 1, 1) := o4 (byt_of hR_text_b0 (j := 55) rfl)
theorem dR_text_56 : decode (mcc mR_text) 56 = .ok (.goto 4, 3) := o167 (a := 0) (b := 4) (byt_of hR_text_b0 (j := 56) rfl) (byt_of hR_text_b0 (j := 57) rfl) (byt_of hR_text_b0 (j := 58) rfl) rfl
theorem dR_text_59 : decode (mcc mR_text) 59 = .ok (.iconst 0, 1) := o3 (byt_of hR_text_b0 (j := 59) rfl)
theorem dR_text_60 : decode (mcc mR_text) 60 = .ok (.istore_n 1, 1) := o60 (byt_of hR_text_b0 (j := 60) rfl)
theorem dR_text_61 : decode (mcc mR_text) 61 = .ok (.aload_n 0, 1) := o42 (byt_of hR_text_b0 (j := 61) rfl)
theorem dR_text_62 : decode (mcc mR_text) 62 = .ok (.getfield 74, 3) := o180 (a := 0) (b := 74) (byt_of hR_text_b0 (j := 62) rfl) (byt_of hR_text_b0 (j := 63) rfl) (byt_of hR_text_b0 (j := 64) rfl) rfl
theorem dR_text_65 : decode (mcc mR_text) 65 = .ok (.iconst 4, 1) := o7 (byt_of hR_text_b0 (j := 65) rfl)
theorem dR_text_66 : decode (mcc mR_text) 66 = .ok (.aload_n 0, 1) := o42 (byt_of hR_text_b0 (j := 66) rfl)
theorem dR_text_67 : decode (mcc mR_text) 67 = .ok (.getfield 161, 3) := o180 (a := 0) (b := 161) (byt_of hR_text_b0 (j := 67) rfl) (byt_of hR_text_b0 (j := 68) rfl) (byt_of hR_text_b0 (j := 69) rfl) rfl
theorem dR_text_70 : decode (mcc mR_text) 70 = .ok (.imul, 1) := o104 (byt_of hR_text_b0 (j := 70) rfl)
theorem dR_text_71 : decode (mcc mR_text) 71 = .ok (.iload_n 2, 1) := o28 (byt_of hR_text_b0 (j := 71) rfl)
theorem dR_text_72 : decode (mcc mR_text) 72 = .ok (.iadd, 1) := o96 (byt_of hR_text_b0 (j := 72) rfl)
theorem dR_text_73 : decode (mcc mR_text) 73 = .ok (.aload_n 0, 1) := o42 (byt_of hR_text_b0 (j := 73) rfl)
theorem dR_text_74 : decode (mcc mR_text) 74 = .ok (.getfield 187, 3) := o180 (a := 0) (b := 187) (byt_of hR_text_b0 (j := 74) rfl) (byt_of hR_text_b0 (j := 75) rfl) (byt_of hR_text_b0 (j := 76) rfl) rfl
theorem dR_text_77 : decode (mcc mR_text) 77 = .ok (.iastore, 1) := o79 (byt_of hR_text_b0 (j := 77) rfl)
theorem dR_text_78 : decode (mcc mR_text) 78 = .ok (.iload_n 1, 1) := o27 (byt_of hR_text_b0 (j := 78) rfl)
theorem dR_text_79 : decode (mcc mR_text) 79 = .ok (.ifCond .eq 14, 3) := o153 (a := 0) (b := 14) (byt_of hR_text_b0 (j := 79) rfl) (byt_of hR_text_b0 (j := 80) rfl) (byt_of hR_text_b0 (j := 81) rfl) rfl
theorem dR_text_82 : decode (mcc mR_text) 82 = .ok (.aload_n 0, 1) := o42 (byt_of hR_text_b0 (j := 82) rfl)
theorem dR_text_83 : decode (mcc mR_text) 83 = .ok (.invokevirtual 222, 3) := o182 (a := 0) (b := 222) (byt_of hR_text_b0 (j := 83) rfl) (byt_of hR_text_b0 (j := 84) rfl) (byt_of hR_text_b0 (j := 85) rfl) rfl
theorem dR_text_86 : decode (mcc mR_text) 86 = .ok (.ifCond .eq 7, 3) := o153 (a := 0) (b := 7) (byt_of hR_text_b0 (j := 86) rfl) (byt_of hR_text_b0 (j := 87) rfl) (byt_of hR_text_b0 (j := 88) rfl) rfl
theorem dR_text_89 : decode (mcc mR_text) 89 = .ok (.iconst 1, 1) := o4 (byt_of hR_text_b0 (j := 89) rfl)
theorem dR_text_90 : decode (mcc mR_text) 90 = .ok (.goto 4, 3) := o167 (a := 0) (b := 4) (byt_of hR_text_b0 (j := 90) rfl) (byt_of hR_text_b0 (j := 91) rfl) (byt_of hR_text_b0 (j := 92) rfl) rfl
theorem dR_text_93 : decode (mcc mR_text) 93 = .ok (.iconst 0, 1) := o3 (byt_of hR_text_b0 (j := 93) rfl)
theorem dR_text_94 : decode (mcc mR_text) 94 = .ok (.istore_n 1, 1) := o60 (byt_of hR_text_b0 (j := 94) rfl)
theorem dR_text_95 : decode (mcc mR_text) 95 = .ok (.iinc 2 1, 3) := o132 (a := 2) (b := 1) (byt_of hR_text_b0 (j := 95) rfl) (byt_of hR_text_b0 (j := 96) rfl) (byt_of hR_text_b0 (j := 97) rfl) rfl
def bR_text_b1 : List Nat := [2, 1, 167, 255, 184, 27, 153, 0, 20, 42, 182, 0, 209, 42, 180, 0, 177, 154, 0, 7, 4, 167, 0, 4, 3, 60, 42, 180, 0, 74, 7, 42, 180, 0, 161, 104, 6, 96, 42, 180, 0, 187, 79, 42, 3, 181, 0, 137, 27, 154, 0, 11, 16, 156, 42, 180, 0, 174, 100, 172, 42, 89, 180, 0, 161, 4, 96, 181, 0, 161, 42, 180, 0, 161, 4, 100, 172]
theorem hR_text_b1 : BL (mcc mR_text) 96 bR_text_b1 := by decide +kernel
theorem dR_text_98 : decode (mcc mR_text) 98 = .ok (.goto (-72), 3) := o167 (a := 255) (b := 184) (byt_of hR_text_b1 (j := 2) rfl) (byt_of hR_text_b1 (j := 3) rfl) (byt_of hR_text_b1 (j := 4) rfl) rfl
theorem dR_text_101 : decode (mcc mR_text) 101 = .ok (.iload_n 1, 1) := o27 (byt_of hR_text_b1 (j := 5) rfl)
theorem dR_text_102 : decode (mcc mR_text) 102 = .ok (.ifCond .eq 20, 3) := o153 (a := 0) (b := 20) (byt_of hR_text_b1 (j := 6) rfl) (byt_of hR_text_b1 (j := 7) rfl) (byt_of hR_text_b1 (j := 8) rfl) rfl
theorem dR_text_105 : decode (mcc mR_text) 105 = .ok (.aload_n 0, 1) := o42 (byt_of hR_text_b1 (j := 9) rfl)
theorem dR_text_106 : decode (mcc mR_text) 106 = .ok (.invokevirtual 209, 3) := o182 (a := 0) (b := 209) (byt_of hR_text_b1 (j := 10) rfl) (byt_of hR_text_b1 (j := 11) rfl) (byt_of hR_text_b1 (j := 12) rfl) rfl
theorem dR_text_109 : decode (mcc mR_text) 109 = .ok (.aload_n 0, 1) := o42 (byt_of hR_text_b1 (j := 13) rfl)
theorem dR_text_110 : decode (mcc mR_text) 110 = .ok (.getfield 177, 3) := o180 (a := 0) (b := 177) (byt_of hR_text_b1 (j := 14) rfl) (byt_of hR_text_b1 (j := 15) rfl) (byt_of hR_text_b1 (j := 16) rfl) rfl
theorem dR_text_113 : decode (mcc mR_text) 113 = .ok (.ifCond .ne 7, 3) := o154 (a := 0) (b := 7) (byt_of hR_text_b1 (j := 17) rfl) (byt_of hR_text_b1 (j := 18) rfl) (byt_of hR_text_b1 (j := 19) rfl) rfl
theorem dR_text_116 : decode (mcc mR_text) 116 = .ok (.iconst 1, 1) := o4 (byt_of hR_text_b1 (j := 20) rfl)
theorem dR_text_117 : decode (mcc mR_text) 117 = .ok (.goto 4, 3) := o167 (a := 0) (b := 4) (byt_of hR_text_b1 (j := 21) rfl) (byt_of hR_text_b1 (j := 22) rfl) (byt_of hR_text_b1 (j := 23) rfl) rfl
theorem dR_text_120 : decode (mcc mR_text) 120 = .ok (.iconst 0, 1) := o3 (byt_of hR_text_b1 (j := 24) rfl)
theorem dR_text_121 : decode (mcc mR_text) 121 = .ok (.istore_n 1, 1) := o60 (byt_of hR_text_b1 (j := 25) rfl)
theorem dR_text_122 : decode (mcc mR_text) 122 = .ok (.aload_n 0, 1) := o42 (byt_of hR_text_b1 (j := 26) rfl)
theorem dR_text_123 : decode (mcc mR_text) 123 = .ok (.getfield 74, 3) := o180 (a := 0) (b := 74) (byt_of hR_text_b1 (j := 27) rfl) (byt_of hR_text_b1 (j := 28) rfl) (byt_of hR_text_b1 (j := 29) rfl) rfl
theorem dR_text_126 : decode (mcc mR_text) 126 = .ok (.iconst 4, 1) := o7 (byt_of hR_text_b1 (j := 30) rfl)
theorem dR_text_127 : decode (mcc mR_text) 127 = .ok (.aload_n 0, 1) := o42 (byt_of hR_text_b1 (j := 31) rfl)
theorem dR_text_128 : decode (mcc mR_text) 128 = .ok (.getfield 161, 3) := o180 (a := 0) (b := 161) (byt_of hR_text_b1 (j := 32) rfl) (byt_of hR_text_b1 (j := 33) rfl) (byt_of hR_text_b1 (j := 34) rfl) rfl
theorem dR_text_131 : decode (mcc mR_text) 131 = .ok (.imul, 1) := o104 (byt_of hR_text_b1 (j := 35) rfl)
theorem dR_text_132 : decode (mcc mR_text) 132 = .ok (.iconst 3, 1) := o6 (byt_of hR_text_b1 (j := 36) rfl)
theorem dR_text_133 : decode (mcc mR_text) 133 = .ok (.iadd, 1) := o96 (byt_of hR_text_b1 (j := 37) rfl)
theorem dR_text_134 : decode (mcc mR_text) 134 = .ok (.aload_n 0, 1) := o42 (byt_of hR_text_b1 (j := 38) rfl)
theorem dR_text_135 : decode (mcc mR_text) 135 = .ok (.getfield 187, 3) := o180 (a := 0) (b := 187) (byt_of hR_text_b1 (j := 39) rfl) (byt_of hR_text_b1 (j := 40) rfl) (byt_of hR_text_b1 (j := 41) rfl) rfl
theorem dR_text_138 : decode (mcc mR_text) 138 = .ok (.iastore, 1) := o79 (byt_of hR_text_b1 (j := 42) rfl)
theorem dR_text_139 : decode (mcc mR_text) 139 = .ok (.aload_n 0, 1) := o42 (byt_of hR_text_b1 (j := 43) rfl)
theorem dR_text_140 : decode (mcc mR_text) 140 = .ok (.iconst 0, 1) := o3 (byt_of hR_text_b1 (j := 44) rfl)
theorem dR_text_141 : decode (mcc mR_text) 141 = .ok (.putfield 137, 3) := o181 (a := 0) (b := 137) (byt_of hR_text_b1 (j := 45) rfl) (byt_of hR_text_b1 (j := 46) rfl) (byt_of hR_text_b1 (j := 47) rfl) rfl
theorem dR_text_144 : decode (mcc mR_text) 144 = .ok (.iload_n 1, 1) := o27 (byt_of hR_text_b1 (j := 48) rfl)
theorem dR_text_145 : decode (mcc mR_text) 145 = .ok (.ifCond .ne 11, 3) := o154 (a := 0) (b := 11) (byt_of hR_text_b1 (j := 49) rfl) (byt_of hR_text_b1 (j := 50) rfl) (byt_of hR_text_b1 (j := 51) rfl) rfl
theorem dR_text_148 : decode (mcc mR_text) 148 = .ok (.bipush (-100), 2) := o16 (a := 156) (byt_of hR_text_b1 (j := 52) rfl) (byt_of hR_text_b1 (j := 53) rfl) rfl
theorem dR_text_150 : decode (mcc mR_text) 150 = .ok (.aload_n 0, 1) := o42 (byt_of hR_text_b1 (j := 54) rfl)
theorem dR_text_151 : decode (mcc mR_text) 151 = .ok (.getfield 174, 3) := o180 (a := 0) (b := 174) (byt_of hR_text_b1 (j := 55) rfl) (byt_of hR_text_b1 (j := 56) rfl) (byt_of hR_text_b1 (j := 57) rfl) rfl
theorem dR_text_154 : decode (mcc mR_text) 154 = .ok (.isub, 1) := o100 (byt_of hR_text_b1 (j := 58) rfl)
theorem dR_text_155 : decode (mcc mR_text) 155 = .ok (.ireturn, 1) := o172 (byt_of hR_text_b1 (j := 59) rfl)
theorem dR_text_156 : decode (mcc mR_text) 156 = .ok (.aload_n 0, 1) := o42 (byt_of hR_text_b1 (j := 60) rfl)
theorem dR_text_157 : decode (mcc mR_text) 157 = .ok (.dup, 1) := o89 (byt_of hR_text_b1 (j := 61) rfl)
theorem dR_text_158 : decode (mcc mR_text) 158 = .ok (.getfield 161, 3) := o180 (a := 0) (b := 161) (byt_of hR_text_b1 (j := 62) rfl) (byt_of hR_text_b1 (j := 63) rfl) (byt_of hR_text_b1 (j := 64) rfl) rfl
theorem dR_text_161 : decode (mcc mR_text) 161 = .ok (.iconst 1, 1) := o4 (byt_of hR_text_b1 (j := 65) rfl)
theorem dR_text_162 : decode (mcc mR_text) 162 = .ok (.iadd, 1) := o96 (byt_of hR_text_b1 (j := 66) rfl)
theorem dR_text_163 : decode (mcc mR_text) 163 = .ok (.putfield 161, 3) := o181 (a := 0) (b := 161) (byt_of hR_text_b1 (j := 67) rfl) (byt_of hR_text_b1 (j := 68) rfl) (byt_of hR_text_b1 (j := 69) rfl) rfl
theorem dR_text_166 : decode (mcc mR_text) 166 = .ok (.aload_n 0, 1) := o42 (byt_of hR_text_b1 (j := 70) rfl)
theorem dR_text_167 : decode (mcc mR_text) 167 = .ok (.getfield 161, 3) := o180 (a := 0) (b := 161) (byt_of hR_text_b1 (j := 71) rfl) (byt_of hR_text_b1 (j := 72) rfl) (byt_of hR_text_b1 (j := 73) rfl) rfl
theorem dR_text_170 : decode (mcc mR_text) 170 = .ok (.iconst 1, 1) := o4 (byt_of hR_text_b1 (j := 74) rfl)
theorem dR_text_171 : decode (mcc mR_text) 171 = .ok (.isub, 1) := o100 (byt_of hR_text_b1 (j := 75) rfl)
theorem dR_text_172 : decode (mcc mR_text) 172 = .ok (.ireturn, 1) := o172 (byt_of hR_text_b1 (j := 76) rfl)
def bR_two_b0 : List Nat := [26, 170, 0, 0, 0, 0, 0, 101, 0, 0, 0, 11, 0, 0, 0, 17, 0, 0, 0, 43, 0, 0, 0, 57, 0, 0, 0, 101, 0, 0, 0, 71, 0, 0, 0, 82, 0, 0, 0, 93, 0, 0, 0, 97, 27, 154, 0, 7, 28, 153, 0, 7, 4, 167, 0, 4, 3, 172, 27, 153, 0, 11, 28, 153, 0, 7, 4, 167, 0, 4, 3, 172, 27, 28, 162, 0, 7, 4, 167, 0, 4, 3, 172, 27, 28, 160, 0, 7, 4, 167, 0, 4, 3, 172, 27, 28, 96, 172, 27, 28, 100, 172]
theorem hR_two_b0 : BL (mcc mR_two) 0 bR_two_b0 := by decide +kernel
theorem dR_two_0 : decode (mcc mR_two) 0 = .ok (.iload_n 0, 1) := o26 (byt_of hR_two_b0 (j := 0) rfl)
theorem dR_two_1 : decode (mcc mR_two) 1 = .ok (.tableswitch 101 11 17 #[43, 57, 101, 71, 82, 93, 97], 43) := by decide +kernel
theorem dR_two_44 : decode (mcc mR_two) 44 = .ok (.iload_n 1, 1) := o27 (byt_of hR_two_b0 (j := 44) rfl)
theorem dR_two_45 : decode (mcc mR_two) 45 = .ok (.ifCond .ne 7, 3) := o154 (a := 0) (b := 7) (byt_of hR_two_b0 (j := 45) rfl) (byt_of hR_two_b0 (j := 46) rfl) (byt_of hR_two_b0 (j := 47) rfl) rfl
theorem dR_two_48 : decode (mcc mR_two) 48 = .ok (.iload_n 2, 1) := o28 (byt_of hR_two_b0 (j := 48) rfl)
theorem dR_two_49 : decode (mcc mR_two) 49 = .ok (.ifCond .eq 7, 3) := o153 (a := 0) (b := 7) (byt_of hR_two_b0 (j := 49) rfl) (byt_of hR_two_b0 (j := 50) rfl) (byt_of hR_two_b0 (j := 51) rfl) rfl
theorem dR_two_52 : decode (mcc mR_two) 52 = .ok (.iconst 1, 1) := o4 (byt_of hR_two_b0 (j := 52) rfl)
theorem dR_two_53 : decode (mcc mR_two) 53 = .ok (.goto 4, 3) := o167 (a := 0) (b := 4) (byt_of hR_two_b0 (j := 53) rfl) (byt_of hR_two_b0 (j := 54) rfl) (byt_of hR_two_b0 (j := 55) rfl) rfl
theorem dR_two_56 : decode (mcc mR_two) 56 = .ok (.iconst 0, 1) := o3 (byt_of hR_two_b0 (j := 56) rfl)
theorem dR_two_57 : decode (mcc mR_two) 57 = .ok (.ireturn, 1) := o172 (byt_of hR_two_b0 (j := 57) rfl)
theorem dR_two_58 : decode (mcc mR_two) 58 = .ok (.iload_n 1, 1) := o27 (byt_of hR_two_b0 (j := 58) rfl)
theorem dR_two_59 : decode (mcc mR_two) 59 = .ok (.ifCond .eq 11, 3) := o153 (a := 0) (b := 11) (byt_of hR_two_b0 (j := 59) rfl) (byt_of hR_two_b0 (j := 60) rfl) (byt_of hR_two_b0 (j := 61) rfl) rfl
theorem dR_two_62 : decode (mcc mR_two) 62 = .ok (.iload_n 2, 1) := o28 (byt_of hR_two_b0 (j := 62) rfl)
theorem dR_two_63 : decode (mcc mR_two) 63 = .ok (.ifCond .eq 7, 3) := o153 (a := 0) (b := 7) (byt_of hR_two_b0 (j := 63) rfl) (byt_of hR_two_b0 (j := 64) rfl) (byt_of hR_two_b0 (j := 65) rfl) rfl
theorem dR_two_66 : decode (mcc mR_two) 66 = .ok (.iconst 1, 1) := o4 (byt_of hR_two_b0 (j := 66) rfl)
theorem dR_two_67 : decode (mcc mR_two) 67 = .ok (.goto 4, 3) := o167 (a := 0) (b := 4) (byt_of hR_two_b0 (j := 67) rfl) (byt_of hR_two_b0 (j := 68) rfl) (byt_of hR_two_b0 (j := 69) rfl) rfl
theorem dR_two_70 : decode (mcc mR_two) 70 = .ok (.iconst 0, 1) := o3 (byt_of hR_two_b0 (j := 70) rfl)
theorem dR_two_71 : decode (mcc mR_two) 71 = .ok (.ireturn, 1) := o172 (byt_of hR_two_b0 (j := 71) rfl)
theorem dR_two_72 : decode (mcc mR_two) 72 = .ok (.iload_n 1, 1) := o27 (byt_of hR_two_b0 (j := 72) rfl)
theorem dR_two_73 : decode (mcc mR_two) 73 = .ok (.iload_n 2, 1) := o28 (byt_of hR_two_b0 (j := 73) rfl)
theorem dR_two_74 : decode (mcc mR_two) 74 = .ok (.if_icmp .ge 7, 3) := o162 (a := 0) (b := 7) (byt_of hR_two_b0 (j := 74) rfl) (byt_of hR_two_b0 (j := 75) rfl) (byt_of hR_two_b0 (j := 76) rfl) rfl
theorem dR_two_77 : decode (mcc mR_two) 77 = .ok (.iconst 1, 1) := o4 (byt_of hR_two_b0 (j := 77) rfl)
theorem dR_two_78 : decode (mcc mR_two) 78 = .ok (.goto 4, 3) := o167 (a := 0) (b := 4) (byt_of hR_two_b0 (j := 78) rfl) (byt_of hR_two_b0 (j := 79) rfl) (byt_of hR_two_b0 (j := 80) rfl) rfl
theorem dR_two_81 : decode (mcc mR_two) 81 = .ok (.iconst 0, 1) := o3 (byt_of hR_two_b0 (j := 81) rfl)
theorem dR_two_82 : decode (mcc mR_two) 82 = .ok (.ireturn, 1) := o172 (byt_of hR_two_b0 (j := 82) rfl)
theorem dR_two_83 : decode (mcc mR_two) 83 = .ok (.iload_n 1, 1) := o27 (byt_of hR_two_b0 (j := 83) rfl)
theorem dR_two_84 : decode (mcc mR_two) 84 = .ok (.iload_n 2, 1) := o28 (byt_of hR_two_b0 (j := 84) rfl)
theorem dR_two_85 : decode (mcc mR_two) 85 = .ok (.if_icmp .ne 7, 3) := o160 (a := 0) (b := 7) (byt_of hR_two_b0 (j := 85) rfl) (byt_of hR_two_b0 (j := 86) rfl) (byt_of hR_two_b0 (j := 87) rfl) rfl
theorem dR_two_88 : decode (mcc mR_two) 88 = .ok (.iconst 1, 1) := o4 (byt_of hR_two_b0 (j := 88) rfl)
theorem dR_two_89 : decode (mcc mR_two) 89 = .ok (.goto 4, 3) := o167 (a := 0) (b := 4) (byt_of hR_two_b0 (j := 89) rfl) (byt_of hR_two_b0 (j := 90) rfl) (byt_of hR_two_b0 (j := 91) rfl) rfl
theorem dR_two_92 : decode (mcc mR_two) 92 = .ok (.iconst 0, 1) := o3 (byt_of hR_two_b0 (j := 92) rfl)
theorem dR_two_93 : decode (mcc mR_two) 93 = .ok (.ireturn, 1) := o172 (byt_of hR_two_b0 (j := 93) rfl)
theorem dR_two_94 : decode (mcc mR_two) 94 = .ok (.iload_n 1, 1) := o27 (byt_of hR_two_b0 (j := 94) rfl)
theorem dR_two_95 : decode (mcc mR_two) 95 = .ok (.iload_n 2, 1) := o28 (byt_of hR_two_b0 (j := 95) rfl)
def bR_two_b1 : List Nat := [96, 172, 27, 28, 100, 172, 27, 28, 104, 172]
theorem hR_two_b1 : BL (mcc mR_two) 96 bR_two_b1 := by decide +kernel
theorem dR_two_96 : decode (mcc mR_two) 96 = .ok (.iadd, 1) := o96 (byt_of hR_two_b1 (j := 0) rfl)
theorem dR_two_97 : decode (mcc mR_two) 97 = .ok (.ireturn, 1) := o172 (byt_of hR_two_b1 (j := 1) rfl)
theorem dR_two_98 : decode (mcc mR_two) 98 = .ok (.iload_n 1, 1) := o27 (byt_of hR_two_b1 (j := 2) rfl)
theorem dR_two_99 : decode (mcc mR_two) 99 = .ok (.iload_n 2, 1) := o28 (byt_of hR_two_b1 (j := 3) rfl)
theorem dR_two_100 : decode (mcc mR_two) 100 = .ok (.isub, 1) := o100 (byt_of hR_two_b1 (j := 4) rfl)
theorem dR_two_101 : decode (mcc mR_two) 101 = .ok (.ireturn, 1) := o172 (byt_of hR_two_b1 (j := 5) rfl)
theorem dR_two_102 : decode (mcc mR_two) 102 = .ok (.iload_n 1, 1) := o27 (byt_of hR_two_b1 (j := 6) rfl)
theorem dR_two_103 : decode (mcc mR_two) 103 = .ok (.iload_n 2, 1) := o28 (byt_of hR_two_b1 (j := 7) rfl)
theorem dR_two_104 : decode (mcc mR_two) 104 = .ok (.imul, 1) := o104 (byt_of hR_two_b1 (j := 8) rfl)
theorem dR_two_105 : decode (mcc mR_two) 105 = .ok (.ireturn, 1) := o172 (byt_of hR_two_b1 (j := 9) rfl)
def bR_worthOf_b0 : List Nat := [3, 61, 42, 180, 0, 74, 7, 42, 180, 0, 164, 104, 27, 96, 46, 62, 29, 42, 180, 0, 74, 7, 42, 180, 0, 164, 104, 27, 96, 4, 96, 46, 162, 0, 165, 42, 180, 0, 71, 17, 0, 200, 42, 180, 0, 164, 104, 29, 96, 46, 54, 4, 21, 4, 18, 212, 162, 0, 10, 21, 4, 16, 11, 162, 0, 37, 42, 180, 0, 116, 28, 21, 4, 16, 11, 162, 0, 13, 42, 180, 0, 119, 21, 4, 46, 167, 0, 8, 21, 4, 18, 212, 100, 79, 132, 2, 1, 167, 0, 94, 21, 4]
theorem hR_worthOf_b0 : BL (mcc mR_worthOf) 0 bR_worthOf_b0 := by decide +kernel
theorem dR_worthOf_0 : decode (mcc mR_worthOf) 0 = .ok (.iconst 0, 1) := o3 (byt_of hR_worthOf_b0 (j := 0) rfl)
theorem dR_worthOf_1 : decode (mcc mR_worthOf) 1 = .ok (.istore_n 2, 1) := o61 (byt_of hR_worthOf_b0 (j := 1) rfl)
theorem dR_worthOf_2 : decode (mcc mR_worthOf) 2 = .ok (.aload_n 0, 1) := o42 (byt_of hR_worthOf_b0 (j := 2) rfl)
theorem dR_worthOf_3 : decode (mcc mR_worthOf) 3 = .ok (.getfield 74, 3) := o180 (a := 0) (b := 74) (byt_of hR_worthOf_b0 (j := 3) rfl) (byt_of hR_worthOf_b0 (j := 4) rfl) (byt_of hR_worthOf_b0 (j := 5) rfl) rfl
theorem dR_worthOf_6 : decode (mcc mR_worthOf) 6 = .ok (.iconst 4, 1) := o7 (byt_of hR_worthOf_b0 (j := 6) rfl)
theorem dR_worthOf_7 : decode (mcc mR_worthOf) 7 = .ok (.aload_n 0, 1) := o42 (byt_of hR_worthOf_b0 (j := 7) rfl)
theorem dR_worthOf_8 : decode (mcc mR_worthOf) 8 = .ok (.getfield 164, 3) := o180 (a := 0) (b := 164) (byt_of hR_worthOf_b0 (j := 8) rfl) (byt_of hR_worthOf_b0 (j := 9) rfl) (byt_of hR_worthOf_b0 (j := 10) rfl) rfl
theorem dR_worthOf_11 : decode (mcc mR_worthOf) 11 = .ok (.imul, 1) := o104 (byt_of hR_worthOf_b0 (j := 11) rfl)
theorem dR_worthOf_12 : decode (mcc mR_worthOf) 12 = .ok (.iload_n 1, 1) := o27 (byt_of hR_worthOf_b0 (j := 12) rfl)
theorem dR_worthOf_13 : decode (mcc mR_worthOf) 13 = .ok (.iadd, 1) := o96 (byt_of hR_worthOf_b0 (j := 13) rfl)
theorem dR_worthOf_14 : decode (mcc mR_worthOf) 14 = .ok (.iaload, 1) := o46 (byt_of hR_worthOf_b0 (j := 14) rfl)
theorem dR_worthOf_15 : decode (mcc mR_worthOf) 15 = .ok (.istore_n 3, 1) := o62 (byt_of hR_worthOf_b0 (j := 15) rfl)
theorem dR_worthOf_16 : decode (mcc mR_worthOf) 16 = .ok (.iload_n 3, 1) := o29 (byt_of hR_worthOf_b0 (j := 16) rfl)
theorem dR_worthOf_17 : decode (mcc mR_worthOf) 17 = .ok (.aload_n 0, 1) := o42 (byt_of hR_worthOf_b0 (j := 17) rfl)
theorem dR_worthOf_18 : decode (mcc mR_worthOf) 18 = .ok (.getfield 74, 3) := o180 (a := 0) (b := 74) (byt_of hR_worthOf_b0 (j := 18) rfl) (byt_of hR_worthOf_b0 (j := 19) rfl) (byt_of hR_worthOf_b0 (j := 20) rfl) rfl
theorem dR_worthOf_21 : decode (mcc mR_worthOf) 21 = .ok (.iconst 4, 1) := o7 (byt_of hR_worthOf_b0 (j := 21) rfl)
theorem dR_worthOf_22 : decode (mcc mR_worthOf) 22 = .ok (.aload_n 0, 1) := o42 (byt_of hR_worthOf_b0 (j := 22) rfl)
theorem dR_worthOf_23 : decode (mcc mR_worthOf) 23 = .ok (.getfield 164, 3) := o180 (a := 0) (b := 164) (byt_of hR_worthOf_b0 (j := 23) rfl) (byt_of hR_worthOf_b0 (j := 24) rfl) (byt_of hR_worthOf_b0 (j := 25) rfl) rfl
theorem dR_worthOf_26 : decode (mcc mR_worthOf) 26 = .ok (.imul, 1) := o104 (byt_of hR_worthOf_b0 (j := 26) rfl)
theorem dR_worthOf_27 : decode (mcc mR_worthOf) 27 = .ok (.iload_n 1, 1) := o27 (byt_of hR_worthOf_b0 (j := 27) rfl)
theorem dR_worthOf_28 : decode (mcc mR_worthOf) 28 = .ok (.iadd, 1) := o96 (byt_of hR_worthOf_b0 (j := 28) rfl)
theorem dR_worthOf_29 : decode (mcc mR_worthOf) 29 = .ok (.iconst 1, 1) := o4 (byt_of hR_worthOf_b0 (j := 29) rfl)
theorem dR_worthOf_30 : decode (mcc mR_worthOf) 30 = .ok (.iadd, 1) := o96 (byt_of hR_worthOf_b0 (j := 30) rfl)
theorem dR_worthOf_31 : decode (mcc mR_worthOf) 31 = .ok (.iaload, 1) := o46 (byt_of hR_worthOf_b0 (j := 31) rfl)
theorem dR_worthOf_32 : decode (mcc mR_worthOf) 32 = .ok (.if_icmp .ge 165, 3) := o162 (a := 0) (b := 165) (byt_of hR_worthOf_b0 (j := 32) rfl) (byt_of hR_worthOf_b0 (j := 33) rfl) (byt_of hR_worthOf_b0 (j := 34) rfl) rfl
theorem dR_worthOf_35 : decode (mcc mR_worthOf) 35 = .ok (.aload_n 0, 1) := o42 (byt_of hR_worthOf_b0 (j := 35) rfl)
theorem dR_worthOf_36 : decode (mcc mR_worthOf) 36 = .ok (.getfield 71, 3) := o180 (a := 0) (b := 71) (byt_of hR_worthOf_b0 (j := 36) rfl) (byt_of hR_worthOf_b0 (j := 37) rfl) (byt_of hR_worthOf_b0 (j := 38) rfl) rfl
theorem dR_worthOf_39 : decode (mcc mR_worthOf) 39 = .ok (.sipush 200, 3) := o17 (a := 0) (b := 200) (byt_of hR_worthOf_b0 (j := 39) rfl) (byt_of hR_worthOf_b0 (j := 40) rfl) (byt_of hR_worthOf_b0 (j := 41) rfl) rfl
theorem dR_worthOf_42 : decode (mcc mR_worthOf) 42 = .ok (.aload_n 0, 1) := o42 (byt_of hR_worthOf_b0 (j := 42) rfl)
theorem dR_worthOf_43 : decode (mcc mR_worthOf) 43 = .ok (.getfield 164, 3) := o180 (a := 0) (b := 164) (byt_of hR_worthOf_b0 (j := 43) rfl) (byt_of hR_worthOf_b0 (j := 44) rfl) (byt_of hR_worthOf_b0 (j := 45) rfl) rfl
theorem dR_worthOf_46 : decode (mcc mR_worthOf) 46 = .ok (.imul, 1) := o104 (byt_of hR_worthOf_b0 (j := 46) rfl)
theorem dR_worthOf_47 : decode (mcc mR_worthOf) 47 = .ok (.iload_n 3, 1) := o29 (byt_of hR_worthOf_b0 (j := 47) rfl)
theorem dR_worthOf_48 : decode (mcc mR_worthOf) 48 = .ok (.iadd, 1) := o96 (byt_of hR_worthOf_b0 (j := 48) rfl)
theorem dR_worthOf_49 : decode (mcc mR_worthOf) 49 = .ok (.iaload, 1) := o46 (byt_of hR_worthOf_b0 (j := 49) rfl)
theorem dR_worthOf_50 : decode (mcc mR_worthOf) 50 = .ok (.istore 4, 2) := o54 (a := 4) (byt_of hR_worthOf_b0 (j := 50) rfl) (byt_of hR_worthOf_b0 (j := 51) rfl)
theorem dR_worthOf_52 : decode (mcc mR_worthOf) 52 = .ok (.iload 4, 2) := o21 (a := 4) (byt_of hR_worthOf_b0 (j := 52) rfl) (byt_of hR_worthOf_b0 (j := 53) rfl)
theorem dR_worthOf_54 : decode (mcc mR_worthOf) 54 = .ok (.ldc 212, 2) := o18 (a := 212) (byt_of hR_worthOf_b0 (j := 54) rfl) (byt_of hR_worthOf_b0 (j := 55) rfl)
theorem dR_worthOf_56 : decode (mcc mR_worthOf) 56 = .ok (.if_icmp .ge 10, 3) := o162 (a := 0) (b := 10) (byt_of hR_worthOf_b0 (j := 56) rfl) (byt_of hR_worthOf_b0 (j := 57) rfl) (byt_of hR_worthOf_b0 (j := 58) rfl) rfl
theorem dR_worthOf_59 : decode (mcc mR_worthOf) 59 = .ok (.iload 4, 2) := o21 (a := 4) (byt_of hR_worthOf_b0 (j := 59) rfl) (byt_of hR_worthOf_b0 (j := 60) rfl)
theorem dR_worthOf_61 : decode (mcc mR_worthOf) 61 = .ok (.bipush 11, 2) := o16 (a := 11) (byt_of hR_worthOf_b0 (j := 61) rfl) (byt_of hR_worthOf_b0 (j := 62) rfl) rfl
theorem dR_worthOf_63 : decode (mcc mR_worthOf) 63 = .ok (.if_icmp .ge 37, 3) := o162 (a := 0) (b := 37) (byt_of hR_worthOf_b0 (j := 63) rfl) (byt_of hR_worthOf_b0 (j := 64) rfl) (byt_of hR_worthOf_b0 (j := 65) rfl) rfl
theorem dR_worthOf_66 : decode (mcc mR_worthOf) 66 = .ok (.aload_n 0, 1) := o42 (byt_of hR_worthOf_b0 (j := 66) rfl)
theorem dR_worthOf_67 : decode (mcc mR_worthOf) 67 = .ok (.getfield 116, 3) := o180 (a := 0) (b := 116) (byt_of hR_worthOf_b0 (j := 67) rfl) (byt_of hR_worthOf_b0 (j := 68) rfl) (byt_of hR_worthOf_b0 (j := 69) rfl) rfl
theorem dR_worthOf_70 : decode (mcc mR_worthOf) 70 = .ok (.iload_n 2, 1) := o28 (byt_of hR_worthOf_b0 (j := 70) rfl)
theorem dR_worthOf_71 : decode (mcc mR_worthOf) 71 = .ok (.iload 4, 2) := o21 (a := 4) (byt_of hR_worthOf_b0 (j := 71) rfl) (byt_of hR_worthOf_b0 (j := 72) rfl)
theorem dR_worthOf_73 : decode (mcc mR_worthOf) 73 = .ok (.bipush 11, 2) := o16 (a := 11) (byt_of hR_worthOf_b0 (j := 73) rfl) (byt_of hR_worthOf_b0 (j := 74) rfl) rfl
theorem dR_worthOf_75 : decode (mcc mR_worthOf) 75 = .ok (.if_icmp .ge 13, 3) := o162 (a := 0) (b := 13) (byt_of hR_worthOf_b0 (j := 75) rfl) (byt_of hR_worthOf_b0 (j := 76) rfl) (byt_of hR_worthOf_b0 (j := 77) rfl) rfl
theorem dR_worthOf_78 : decode (mcc mR_worthOf) 78 = .ok (.aload_n 0, 1) := o42 (byt_of hR_worthOf_b0 (j := 78) rfl)
theorem dR_worthOf_79 : decode (mcc mR_worthOf) 79 = .ok (.getfield 119, 3) := o180 (a := 0) (b := 119) (byt_of hR_worthOf_b0 (j := 79) rfl) (byt_of hR_worthOf_b0 (j := 80) rfl) (byt_of hR_worthOf_b0 (j := 81) rfl) rfl
theorem dR_worthOf_82 : decode (mcc mR_worthOf) 82 = .ok (.iload 4, 2) := o21 (a := 4) (byt_of hR_worthOf_b0 (j := 82) rfl) (byt_of hR_worthOf_b0 (j := 83) rfl)
theorem dR_worthOf_84 : decode (mcc mR_worthOf) 84 = .ok (.iaload, 1) := o46 (byt_of hR_worthOf_b0 (j := 84) rfl)
theorem dR_worthOf_85 : decode (mcc mR_worthOf) 85 = .ok (.goto 8, 3) := o167 (a := 0) (b := 8) (byt_of hR_worthOf_b0 (j := 85) rfl) (byt_of hR_worthOf_b0 (j := 86) rfl) (byt_of hR_worthOf_b0 (j := 87) rfl) rfl
theorem dR_worthOf_88 : decode (mcc mR_worthOf) 88 = .ok (.iload 4, 2) := o21 (a := 4) (byt_of hR_worthOf_b0 (j := 88) rfl) (byt_of hR_worthOf_b0 (j := 89) rfl)
theorem dR_worthOf_90 : decode (mcc mR_worthOf) 90 = .ok (.ldc 212, 2) := o18 (a := 212) (byt_of hR_worthOf_b0 (j := 90) rfl) (byt_of hR_worthOf_b0 (j := 91) rfl)
theorem dR_worthOf_92 : decode (mcc mR_worthOf) 92 = .ok (.isub, 1) := o100 (byt_of hR_worthOf_b0 (j := 92) rfl)
theorem dR_worthOf_93 : decode (mcc mR_worthOf) 93 = .ok (.iastore, 1) := o79 (byt_of hR_worthOf_b0 (j := 93) rfl)
theorem dR_worthOf_94 : decode (mcc mR_worthOf) 94 = .ok (.iinc 2 1, 3) := o132 (a := 2) (b := 1) (byt_of hR_worthOf_b0 (j := 94) rfl) (byt_of hR_worthOf_b0 (j := 95) rfl) (byt_of hR_worthOf_b0 (j := 96) rfl) rfl
def bR_worthOf_b1 : List Nat := [1, 167, 0, 94, 21, 4, 16, 13, 160, 0, 30, 42, 180, 0, 116, 28, 4, 100, 42, 180, 0, 116, 28, 4, 100, 46, 154, 0, 7, 4, 167, 0, 4, 3, 79, 167, 0, 60, 21, 4, 16, 19, 160, 0, 23, 42, 180, 0, 116, 28, 4, 100, 42, 180, 0, 116, 28, 4, 100, 46, 116, 79, 167, 0, 33, 132, 2, 255, 42, 180, 0, 116, 28, 4, 100, 21, 4, 42, 180, 0, 116, 28, 4, 100, 46, 42, 180, 0, 116, 28, 46, 184, 0, 226, 79, 132, 3, 1, 167, 255, 78, 42]
theorem hR_worthOf_b1 : BL (mcc mR_worthOf) 96 bR_worthOf_b1 := by decide +kernel
theorem dR_worthOf_97 : decode (mcc mR_worthOf) 97 = .ok (.goto 94, 3) := o167 (a := 0) (b := 94) (byt_of hR_worthOf_b1 (j := 1) rfl) (byt_of hR_worthOf_b1 (j := 2) rfl) (byt_of hR_worthOf_b1 (j := 3) rfl) rfl
theorem dR_worthOf_100 : decode (mcc mR_worthOf) 100 = .ok (.iload 4, 2) := o21 (a := 4) (byt_of hR_worthOf_b1 (j := 4) rfl) (byt_of hR_worthOf_b1 (j := 5) rfl)
theorem dR_worthOf_102 : decode (mcc mR_worthOf) 102 = .ok (.bipush 13, 2) := o16 (a := 13) (byt_of hR_worthOf_b1 (j := 6) rfl) (byt_of hR_worthOf_b1 (j := 7) rfl) rfl
theorem dR_worthOf_104 : decode (mcc mR_worthOf) 104 = .ok (.if_icmp .ne 30, 3) := o160 (a := 0) (b := 30) (byt_of hR_worthOf_b1 (j := 8) rfl) (byt_of hR_worthOf_b1 (j := 9) rfl) (byt_of hR_worthOf_b1 (j := 10) rfl) rfl
theorem dR_worthOf_107 : decode (mcc mR_worthOf) 107 = .ok (.aload_n 0, 1) := o42 (byt_of hR_worthOf_b1 (j := 11) rfl)
theorem dR_worthOf_108 : decode (mcc mR_worthOf) 108 = .ok (.getfield 116, 3) := o180 (a := 0) (b := 116) (byt_of hR_worthOf_b1 (j := 12) rfl) (byt_of hR_worthOf_b1 (j := 13) rfl) (byt_of hR_worthOf_b1 (j := 14) rfl) rfl
theorem dR_worthOf_111 : decode (mcc mR_worthOf) 111 = .ok (.iload_n 2, 1) := o28 (byt_of hR_worthOf_b1 (j := 15) rfl)
theorem dR_worthOf_112 : decode (mcc mR_worthOf) 112 = .ok (.iconst 1, 1) := o4 (byt_of hR_worthOf_b1 (j := 16) rfl)
theorem dR_worthOf_113 : decode (mcc mR_worthOf) 113 = .ok (.isub, 1) := o100 (byt_of hR_worthOf_b1 (j := 17) rfl)
theorem dR_worthOf_114 : decode (mcc mR_worthOf) 114 = .ok (.aload_n 0, 1) := o42 (byt_of hR_worthOf_b1 (j := 18) rfl)
theorem dR_worthOf_115 : decode (mcc mR_worthOf) 115 = .ok (.getfield 116, 3) := o180 (a := 0) (b := 116) (byt_of hR_worthOf_b1 (j := 19) rfl) (byt_of hR_worthOf_b1 (j := 20) rfl) (byt_of hR_worthOf_b1 (j := 21) rfl) rfl
theorem dR_worthOf_118 : decode (mcc mR_worthOf) 118 = .ok (.iload_n 2, 1) := o28 (byt_of hR_worthOf_b1 (j := 22) rfl)
theorem dR_worthOf_119 : decode (mcc mR_worthOf) 119 = .ok (.iconst 1, 1) := o4 (byt_of hR_worthOf_b1 (j := 23) rfl)
theorem dR_worthOf_120 : decode (mcc mR_worthOf) 120 = .ok (.isub, 1) := o100 (byt_of hR_worthOf_b1 (j := 24) rfl)
theorem dR_worthOf_121 : decode (mcc mR_worthOf) 121 = .ok (.iaload, 1) := o46 (byt_of hR_worthOf_b1 (j := 25) rfl)
theorem dR_worthOf_122 : decode (mcc mR_worthOf) 122 = .ok (.ifCond .ne 7, 3) := o154 (a := 0) (b := 7) (byt_of hR_worthOf_b1 (j := 26) rfl) (byt_of hR_worthOf_b1 (j := 27) rfl) (byt_of hR_worthOf_b1 (j := 28) rfl) rfl
theorem dR_worthOf_125 : decode (mcc mR_worthOf) 125 = .ok (.iconst 1, 1) := o4 (byt_of hR_worthOf_b1 (j := 29) rfl)
theorem dR_worthOf_126 : decode (mcc mR_worthOf) 126 = .ok (.goto 4, 3) := o167 (a := 0) (b := 4) (byt_of hR_worthOf_b1 (j := 30) rfl) (byt_of hR_worthOf_b1 (j := 31) rfl) (byt_of hR_worthOf_b1 (j := 32) rfl) rfl
theorem dR_worthOf_129 : decode (mcc mR_worthOf) 129 = .ok (.iconst 0, 1) := o3 (byt_of hR_worthOf_b1 (j := 33) rfl)
theorem dR_worthOf_130 : decode (mcc mR_worthOf) 130 = .ok (.iastore, 1) := o79 (byt_of hR_worthOf_b1 (j := 34) rfl)
theorem dR_worthOf_131 : decode (mcc mR_worthOf) 131 = .ok (.goto 60, 3) := o167 (a := 0) (b := 60) (byt_of hR_worthOf_b1 (j := 35) rfl) (byt_of hR_worthOf_b1 (j := 36) rfl) (byt_of hR_worthOf_b1 (j := 37) rfl) rfl
theorem dR_worthOf_134 : decode (mcc mR_worthOf) 134 = .ok (.iload 4, 2) := o21 (a := 4) (byt_of hR_worthOf_b1 (j := 38) rfl) (byt_of hR_worthOf_b1 (j := 39) rfl)
theorem dR_worthOf_136 : decode (mcc mR_worthOf) 136 = .ok (.bipush 19, 2) := o16 (a := 19) (byt_of hR_worthOf_b1 (j := 40) rfl) (byt_of hR_worthOf_b1 (j := 41) rfl) rfl
theorem dR_worthOf_138 : decode (mcc mR_worthOf) 138 = .ok (.if_icmp .ne 23, 3) := o160 (a := 0) (b := 23) (byt_of hR_worthOf_b1 (j := 42) rfl) (byt_of hR_worthOf_b1 (j := 43) rfl) (byt_of hR_worthOf_b1 (j := 44) rfl) rfl
theorem dR_worthOf_141 : decode (mcc mR_worthOf) 141 = .ok (.aload_n 0, 1) := o42 (byt_of hR_worthOf_b1 (j := 45) rfl)
theorem dR_worthOf_142 : decode (mcc mR_worthOf) 142 = .ok (.getfield 116, 3) := o180 (a := 0) (b := 116) (byt_of hR_worthOf_b1 (j := 46) rfl) (byt_of hR_worthOf_b1 (j := 47) rfl) (byt_of hR_worthOf_b1 (j := 48) rfl) rfl
theorem dR_worthOf_145 : decode (mcc mR_worthOf) 145 = .ok (.iload_n 2, 1) := o28 (byt_of hR_worthOf_b1 (j := 49) rfl)
theorem dR_worthOf_146 : decode (mcc mR_worthOf) 146 = .ok (.iconst 1, 1) := o4 (byt_of hR_worthOf_b1 (j := 50) rfl)
theorem dR_worthOf_147 : decode (mcc mR_worthOf) 147 = .ok (.isub, 1) := o100 (byt_of hR_worthOf_b1 (j := 51) rfl)
theorem dR_worthOf_148 : decode (mcc mR_worthOf) 148 = .ok (.aload_n 0, 1) := o42 (byt_of hR_worthOf_b1 (j := 52) rfl)
theorem dR_worthOf_149 : decode (mcc mR_worthOf) 149 = .ok (.getfield 116, 3) := o180 (a := 0) (b := 116) (byt_of hR_worthOf_b1 (j := 53) rfl) (byt_of hR_worthOf_b1 (j := 54) rfl) (byt_of hR_worthOf_b1 (j := 55) rfl) rfl
theorem dR_worthOf_152 : decode (mcc mR_worthOf) 152 = .ok (.iload_n 2, 1) := o28 (byt_of hR_worthOf_b1 (j := 56) rfl)
theorem dR_worthOf_153 : decode (mcc mR_worthOf) 153 = .ok (.iconst 1, 1) := o4 (byt_of hR_worthOf_b1 (j := 57) rfl)
theorem dR_worthOf_154 : decode (mcc mR_worthOf) 154 = .ok (.isub, 1) := o100 (byt_of hR_worthOf_b1 (j := 58) rfl)
theorem dR_worthOf_155 : decode (mcc mR_worthOf) 155 = .ok (.iaload, 1) := o46 (byt_of hR_worthOf_b1 (j := 59) rfl)
theorem dR_worthOf_156 : decode (mcc mR_worthOf) 156 = .ok (.ineg, 1) := o116 (byt_of hR_worthOf_b1 (j := 60) rfl)
theorem dR_worthOf_157 : decode (mcc mR_worthOf) 157 = .ok (.iastore, 1) := o79 (byt_of hR_worthOf_b1 (j := 61) rfl)
theorem dR_worthOf_158 : decode (mcc mR_worthOf) 158 = .ok (.goto 33, 3) := o167 (a := 0) (b := 33) (byt_of hR_worthOf_b1 (j := 62) rfl) (byt_of hR_worthOf_b1 (j := 63) rfl) (byt_of hR_worthOf_b1 (j := 64) rfl) rfl
theorem dR_worthOf_161 : decode (mcc mR_worthOf) 161 = .ok (.iinc 2 (-1), 3) := o132 (a := 2) (b := 255) (byt_of hR_worthOf_b1 (j := 65) rfl) (byt_of hR_worthOf_b1 (j := 66) rfl) (byt_of hR_worthOf_b1 (j := 67) rfl) rfl
theorem dR_worthOf_164 : decode (mcc mR_worthOf) 164 = .ok (.aload_n 0, 1) := o42 (byt_of hR_worthOf_b1 (j := 68) rfl)
theorem dR_worthOf_165 : decode (mcc mR_worthOf) 165 = .ok (.getfield 116, 3) := o180 (a := 0) (b := 116) (byt_of hR_worthOf_b1 (j := 69) rfl) (byt_of hR_worthOf_b1 (j := 70) rfl) (byt_of hR_worthOf_b1 (j := 71) rfl) rfl
theorem dR_worthOf_168 : decode (mcc mR_worthOf) 168 = .ok (.iload_n 2, 1) := o28 (byt_of hR_worthOf_b1 (j := 72) rfl)
theorem dR_worthOf_169 : decode (mcc mR_worthOf) 169 = .ok (.iconst 1, 1) := o4 (byt_of hR_worthOf_b1 (j := 73) rfl)
theorem dR_worthOf_170 : decode (mcc mR_worthOf) 170 = .ok (.isub, 1) := o100 (byt_of hR_worthOf_b1 (j := 74) rfl)
theorem dR_worthOf_171 : decode (mcc mR_worthOf) 171 = .ok (.iload 4, 2) := o21 (a := 4) (byt_of hR_worthOf_b1 (j := 75) rfl) (byt_of hR_worthOf_b1 (j := 76) rfl)
theorem dR_worthOf_173 : decode (mcc mR_worthOf) 173 = .ok (.aload_n 0, 1) := o42 (byt_of hR_worthOf_b1 (j := 77) rfl)
theorem dR_worthOf_174 : decode (mcc mR_worthOf) 174 = .ok (.getfield 116, 3) := o180 (a := 0) (b := 116) (byt_of hR_worthOf_b1 (j := 78) rfl) (byt_of hR_worthOf_b1 (j := 79) rfl) (byt_of hR_worthOf_b1 (j := 80) rfl) rfl
theorem dR_worthOf_177 : decode (mcc mR_worthOf) 177 = .ok (.iload_n 2, 1) := o28 (byt_of hR_worthOf_b1 (j := 81) rfl)
theorem dR_worthOf_178 : decode (mcc mR_worthOf) 178 = .ok (.iconst 1, 1) := o4 (byt_of hR_worthOf_b1 (j := 82) rfl)
theorem dR_worthOf_179 : decode (mcc mR_worthOf) 179 = .ok (.isub, 1) := o100 (byt_of hR_worthOf_b1 (j := 83) rfl)
theorem dR_worthOf_180 : decode (mcc mR_worthOf) 180 = .ok (.iaload, 1) := o46 (byt_of hR_worthOf_b1 (j := 84) rfl)
theorem dR_worthOf_181 : decode (mcc mR_worthOf) 181 = .ok (.aload_n 0, 1) := o42 (byt_of hR_worthOf_b1 (j := 85) rfl)
theorem dR_worthOf_182 : decode (mcc mR_worthOf) 182 = .ok (.getfield 116, 3) := o180 (a := 0) (b := 116) (byt_of hR_worthOf_b1 (j := 86) rfl) (byt_of hR_worthOf_b1 (j := 87) rfl) (byt_of hR_worthOf_b1 (j := 88) rfl) rfl
theorem dR_worthOf_185 : decode (mcc mR_worthOf) 185 = .ok (.iload_n 2, 1) := o28 (byt_of hR_worthOf_b1 (j := 89) rfl)
theorem dR_worthOf_186 : decode (mcc mR_worthOf) 186 = .ok (.iaload, 1) := o46 (byt_of hR_worthOf_b1 (j := 90) rfl)
theorem dR_worthOf_187 : decode (mcc mR_worthOf) 187 = .ok (.invokestatic 226, 3) := o184 (a := 0) (b := 226) (byt_of hR_worthOf_b1 (j := 91) rfl) (byt_of hR_worthOf_b1 (j := 92) rfl) (byt_of hR_worthOf_b1 (j := 93) rfl) rfl
theorem dR_worthOf_190 : decode (mcc mR_worthOf) 190 = .ok (.iastore, 1) := o79 (byt_of hR_worthOf_b1 (j := 94) rfl)
theorem dR_worthOf_191 : decode (mcc mR_worthOf) 191 = .ok (.iinc 3 1, 3) := o132 (a := 3) (b := 1) (byt_of hR_worthOf_b1 (j := 95) rfl) (byt_of hR_worthOf_b1 (j := 96) rfl) (byt_of hR_worthOf_b1 (j := 97) rfl) rfl
def bR_worthOf_b2 : List Nat := [3, 1, 167, 255, 78, 42, 180, 0, 116, 3, 46, 172]
theorem hR_worthOf_b2 : BL (mcc mR_worthOf) 192 bR_worthOf_b2 := by decide +kernel
theorem dR_worthOf_194 : decode (mcc mR_worthOf) 194 = .ok (.goto (-178), 3) := o167 (a := 255) (b := 78) (byt_of hR_worthOf_b2 (j := 2) rfl) (byt_of hR_worthOf_b2 (j := 3) rfl) (byt_of hR_worthOf_b2 (j := 4) rfl) rfl
theorem dR_worthOf_197 : decode (mcc mR_worthOf) 197 = .ok (.aload_n 0, 1) := o42 (byt_of hR_worthOf_b2 (j := 5) rfl)
theorem dR_worthOf_198 : decode (mcc mR_worthOf) 198 = .ok (.getfield 116, 3) := o180 (a := 0) (b := 116) (byt_of hR_worthOf_b2 (j := 6) rfl) (byt_of hR_worthOf_b2 (j := 7) rfl) (byt_of hR_worthOf_b2 (j := 8) rfl) rfl
theorem dR_worthOf_201 : decode (mcc mR_worthOf) 201 = .ok (.iconst 0, 1) := o3 (byt_of hR_worthOf_b2 (j := 9) rfl)
theorem dR_worthOf_202 : decode (mcc mR_worthOf) 202 = .ok (.iaload, 1) := o46 (byt_of hR_worthOf_b2 (j := 10) rfl)
theorem dR_worthOf_203 : decode (mcc mR_worthOf) 203 = .ok (.ireturn, 1) := o172 (byt_of hR_worthOf_b2 (j := 11) rfl)
def bR_names_b0 : List Nat := [42, 180, 0, 119, 3, 27, 79, 42, 180, 0, 119, 4, 28, 79, 42, 180, 0, 119, 5, 29, 79, 42, 180, 0, 119, 6, 21, 4, 79, 42, 180, 0, 119, 7, 21, 5, 79, 42, 180, 0, 119, 8, 21, 6, 79, 177]
theorem hR_names_b0 : BL (mcc mR_names) 0 bR_names_b0 := by decide +kernel
theorem dR_names_0 : decode (mcc mR_names) 0 = .ok (.aload_n 0, 1) := o42 (byt_of hR_names_b0 (j := 0) rfl)
theorem dR_names_1 : decode (mcc mR_names) 1 = .ok (.getfield 119, 3) := o180 (a := 0) (b := 119) (byt_of hR_names_b0 (j := 1) rfl) (byt_of hR_names_b0 (j := 2) rfl) (byt_of hR_names_b0 (j := 3) rfl) rfl
theorem dR_names_4 : decode (mcc mR_names) 4 = .ok (.iconst 0, 1) := o3 (byt_of hR_names_b0 (j := 4) rfl)
theorem dR_names_5 : decode (mcc mR_names) 5 = .ok (.iload_n 1, 1) := o27 (byt_of hR_names_b0 (j := 5) rfl)
theorem dR_names_6 : decode (mcc mR_names) 6 = .ok (.iastore, 1) := o79 (byt_of hR_names_b0 (j := 6) rfl)
theorem dR_names_7 : decode (mcc mR_names) 7 = .ok (.aload_n 0, 1) := o42 (byt_of hR_names_b0 (j := 7) rfl)
theorem dR_names_8 : decode (mcc mR_names) 8 = .ok (.getfield 119, 3) := o180 (a := 0) (b := 119) (byt_of hR_names_b0 (j := 8) rfl) (byt_of hR_names_b0 (j := 9) rfl) (byt_of hR_names_b0 (j := 10) rfl) rfl
theorem dR_names_11 : decode (mcc mR_names) 11 = .ok (.iconst 1, 1) := o4 (byt_of hR_names_b0 (j := 11) rfl)
theorem dR_names_12 : decode (mcc mR_names) 12 = .ok (.iload_n 2, 1) := o28 (byt_of hR_names_b0 (j := 12) rfl)
theorem dR_names_13 : decode (mcc mR_names) 13 = .ok (.iastore, 1) := o79 (byt_of hR_names_b0 (j := 13) rfl)
theorem dR_names_14 : decode (mcc mR_names) 14 = .ok (.aload_n 0, 1) := o42 (byt_of hR_names_b0 (j := 14) rfl)
theorem dR_names_15 : decode (mcc mR_names) 15 = .ok (.getfield 119, 3) := o180 (a := 0) (b := 119) (byt_of hR_names_b0 (j := 15) rfl) (byt_of hR_names_b0 (j := 16) rfl) (byt_of hR_names_b0 (j := 17) rfl) rfl
theorem dR_names_18 : decode (mcc mR_names) 18 = .ok (.iconst 2, 1) := o5 (byt_of hR_names_b0 (j := 18) rfl)
theorem dR_names_19 : decode (mcc mR_names) 19 = .ok (.iload_n 3, 1) := o29 (byt_of hR_names_b0 (j := 19) rfl)
theorem dR_names_20 : decode (mcc mR_names) 20 = .ok (.iastore, 1) := o79 (byt_of hR_names_b0 (j := 20) rfl)
theorem dR_names_21 : decode (mcc mR_names) 21 = .ok (.aload_n 0, 1) := o42 (byt_of hR_names_b0 (j := 21) rfl)
theorem dR_names_22 : decode (mcc mR_names) 22 = .ok (.getfield 119, 3) := o180 (a := 0) (b := 119) (byt_of hR_names_b0 (j := 22) rfl) (byt_of hR_names_b0 (j := 23) rfl) (byt_of hR_names_b0 (j := 24) rfl) rfl
theorem dR_names_25 : decode (mcc mR_names) 25 = .ok (.iconst 3, 1) := o6 (byt_of hR_names_b0 (j := 25) rfl)
theorem dR_names_26 : decode (mcc mR_names) 26 = .ok (.iload 4, 2) := o21 (a := 4) (byt_of hR_names_b0 (j := 26) rfl) (byt_of hR_names_b0 (j := 27) rfl)
theorem dR_names_28 : decode (mcc mR_names) 28 = .ok (.iastore, 1) := o79 (byt_of hR_names_b0 (j := 28) rfl)
theorem dR_names_29 : decode (mcc mR_names) 29 = .ok (.aload_n 0, 1) := o42 (byt_of hR_names_b0 (j := 29) rfl)
theorem dR_names_30 : decode (mcc mR_names) 30 = .ok (.getfield 119, 3) := o180 (a := 0) (b := 119) (byt_of hR_names_b0 (j := 30) rfl) (byt_of hR_names_b0 (j := 31) rfl) (byt_of hR_names_b0 (j := 32) rfl) rfl
theorem dR_names_33 : decode (mcc mR_names) 33 = .ok (.iconst 4, 1) := o7 (byt_of hR_names_b0 (j := 33) rfl)
theorem dR_names_34 : decode (mcc mR_names) 34 = .ok (.iload 5, 2) := o21 (a := 5) (byt_of hR_names_b0 (j := 34) rfl) (byt_of hR_names_b0 (j := 35) rfl)
theorem dR_names_36 : decode (mcc mR_names) 36 = .ok (.iastore, 1) := o79 (byt_of hR_names_b0 (j := 36) rfl)
theorem dR_names_37 : decode (mcc mR_names) 37 = .ok (.aload_n 0, 1) := o42 (byt_of hR_names_b0 (j := 37) rfl)
theorem dR_names_38 : decode (mcc mR_names) 38 = .ok (.getfield 119, 3) := o180 (a := 0) (b := 119) (byt_of hR_names_b0 (j := 38) rfl) (byt_of hR_names_b0 (j := 39) rfl) (byt_of hR_names_b0 (j := 40) rfl) rfl
theorem dR_names_41 : decode (mcc mR_names) 41 = .ok (.iconst 5, 1) := o8 (byt_of hR_names_b0 (j := 41) rfl)
theorem dR_names_42 : decode (mcc mR_names) 42 = .ok (.iload 6, 2) := o21 (a := 6) (byt_of hR_names_b0 (j := 42) rfl) (byt_of hR_names_b0 (j := 43) rfl)
theorem dR_names_44 : decode (mcc mR_names) 44 = .ok (.iastore, 1) := o79 (byt_of hR_names_b0 (j := 44) rfl)
theorem dR_names_45 : decode (mcc mR_names) 45 = .ok (.return_, 1) := o177 (byt_of hR_names_b0 (j := 45) rfl)
def bR_force_b0 : List Nat := [27, 3, 42, 180, 0, 161, 4, 100, 184, 0, 151, 154, 0, 6, 16, 254, 172, 42, 180, 0, 164, 61, 42, 27, 181, 0, 164, 28, 172]
theorem hR_force_b0 : BL (mcc mR_force) 0 bR_force_b0 := by decide +kernel
theorem dR_force_0 : decode (mcc mR_force) 0 = .ok (.iload_n 1, 1) := o27 (byt_of hR_force_b0 (j := 0) rfl)
theorem dR_force_1 : decode (mcc mR_force) 1 = .ok (.iconst 0, 1) := o3 (byt_of hR_force_b0 (j := 1) rfl)
theorem dR_force_2 : decode (mcc mR_force) 2 = .ok (.aload_n 0, 1) := o42 (byt_of hR_force_b0 (j := 2) rfl)
theorem dR_force_3 : decode (mcc mR_force) 3 = .ok (.getfield 161, 3) := o180 (a := 0) (b := 161) (byt_of hR_force_b0 (j := 3) rfl) (byt_of hR_force_b0 (j := 4) rfl) (byt_of hR_force_b0 (j := 5) rfl) rfl
theorem dR_force_6 : decode (mcc mR_force) 6 = .ok (.iconst 1, 1) := o4 (byt_of hR_force_b0 (j := 6) rfl)
theorem dR_force_7 : decode (mcc mR_force) 7 = .ok (.isub, 1) := o100 (byt_of hR_force_b0 (j := 7) rfl)
theorem dR_force_8 : decode (mcc mR_force) 8 = .ok (.invokestatic 151, 3) := o184 (a := 0) (b := 151) (byt_of hR_force_b0 (j := 8) rfl) (byt_of hR_force_b0 (j := 9) rfl) (byt_of hR_force_b0 (j := 10) rfl) rfl
theorem dR_force_11 : decode (mcc mR_force) 11 = .ok (.ifCond .ne 6, 3) := o154 (a := 0) (b := 6) (byt_of hR_force_b0 (j := 11) rfl) (byt_of hR_force_b0 (j := 12) rfl) (byt_of hR_force_b0 (j := 13) rfl) rfl
theorem dR_force_14 : decode (mcc mR_force) 14 = .ok (.bipush (-2), 2) := o16 (a := 254) (byt_of hR_force_b0 (j := 14) rfl) (byt_of hR_force_b0 (j := 15) rfl) rfl
theorem dR_force_16 : decode (mcc mR_force) 16 = .ok (.ireturn, 1) := o172 (byt_of hR_force_b0 (j := 16) rfl)
theorem dR_force_17 : decode (mcc mR_force) 17 = .ok (.aload_n 0, 1) := o42 (byt_of hR_force_b0 (j := 17) rfl)
theorem dR_force_18 : decode (mcc mR_force) 18 = .ok (.getfield 164, 3) := o180 (a := 0) (b := 164) (byt_of hR_force_b0 (j := 18) rfl) (byt_of hR_force_b0 (j := 19) rfl) (byt_of hR_force_b0 (j := 20) rfl) rfl
theorem dR_force_21 : decode (mcc mR_force) 21 = .ok (.istore_n 2, 1) := o61 (byt_of hR_force_b0 (j := 21) rfl)
theorem dR_force_22 : decode (mcc mR_force) 22 = .ok (.aload_n 0, 1) := o42 (byt_of hR_force_b0 (j := 22) rfl)
theorem dR_force_23 : decode (mcc mR_force) 23 = .ok (.iload_n 1, 1) := o27 (byt_of hR_force_b0 (j := 23) rfl)
theorem dR_force_24 : decode (mcc mR_force) 24 = .ok (.putfield 164, 3) := o181 (a := 0) (b := 164) (byt_of hR_force_b0 (j := 24) rfl) (byt_of hR_force_b0 (j := 25) rfl) (byt_of hR_force_b0 (j := 26) rfl) rfl
theorem dR_force_27 : decode (mcc mR_force) 27 = .ok (.iload_n 2, 1) := o28 (byt_of hR_force_b0 (j := 27) rfl)
theorem dR_force_28 : decode (mcc mR_force) 28 = .ok (.ireturn, 1) := o172 (byt_of hR_force_b0 (j := 28) rfl)
def bR_person_b0 : List Nat := [28, 155, 0, 45, 28, 16, 100, 108, 8, 163, 0, 37, 29, 3, 17, 0, 255, 184, 0, 151, 153, 0, 26, 21, 4, 155, 0, 21, 21, 4, 16, 100, 108, 4, 16, 9, 184, 0, 151, 153, 0, 7, 4, 167, 0, 4, 3, 54, 5, 27, 3, 8, 184, 0, 151, 153, 0, 8, 21, 5, 154, 0, 6, 16, 254, 172, 42, 180, 0, 148, 16, 8, 160, 0, 6, 16, 252, 172, 42, 180, 0, 20, 42, 180, 0, 148, 27, 79, 42, 180, 0, 23, 42, 180, 0, 148, 28, 16, 100, 108, 79, 42]
theorem hR_person_b0 : BL (mcc mR_person) 0 bR_person_b0 := by decide +kernel
theorem dR_person_0 : decode (mcc mR_person) 0 = .ok (.iload_n 2, 1) := o28 (byt_of hR_person_b0 (j := 0) rfl)
theorem dR_person_1 : decode (mcc mR_person) 1 = .ok (.ifCond .lt 45, 3) := o155 (a := 0) (b := 45) (byt_of hR_person_b0 (j := 1) rfl) (byt_of hR_person_b0 (j := 2) rfl) (byt_of hR_person_b0 (j := 3) rfl) rfl
theorem dR_person_4 : decode (mcc mR_person) 4 = .ok (.iload_n 2, 1) := o28 (byt_of hR_person_b0 (j := 4) rfl)
theorem dR_person_5 : decode (mcc mR_person) 5 = .ok (.bipush 100, 2) := o16 (a := 100) (byt_of hR_person_b0 (j := 5) rfl) (byt_of hR_person_b0 (j := 6) rfl) rfl
theorem dR_person_7 : decode (mcc mR_person) 7 = .ok (.idiv, 1) := o108 (byt_of hR_person_b0 (j := 7) rfl)
theorem dR_person_8 : decode (mcc mR_person) 8 = .ok (.iconst 5, 1) := o8 (byt_of hR_person_b0 (j := 8) rfl)
theorem dR_person_9 : decode (mcc mR_person) 9 = .ok (.if_icmp .gt 37, 3) := o163 (a := 0) (b := 37) (byt_of hR_person_b0 (j := 9) rfl) (byt_of hR_person_b0 (j := 10) rfl) (byt_of hR_person_b0 (j := 11) rfl) rfl
theorem dR_person_12 : decode (mcc mR_person) 12 = .ok (.iload_n 3, 1) := o29 (byt_of hR_person_b0 (j := 12) rfl)
theorem dR_person_13 : decode (mcc mR_person) 13 = .ok (.iconst 0, 1) := o3 (byt_of hR_person_b0 (j := 13) rfl)
theorem dR_person_14 : decode (mcc mR_person) 14 = .ok (.sipush 255, 3) := o17 (a := 0) (b := 255) (byt_of hR_person_b0 (j := 14) rfl) (byt_of hR_person_b0 (j := 15) rfl) (byt_of hR_person_b0 (j := 16) rfl) rfl
theorem dR_person_17 : decode (mcc mR_person) 17 = .ok (.invokestatic 151, 3) := o184 (a := 0) (b := 151) (byt_of hR_person_b0 (j := 17) rfl) (byt_of hR_person_b0 (j := 18) rfl) (byt_of hR_person_b0 (j := 19) rfl) rfl
theorem dR_person_20 : decode (mcc mR_person) 20 = .ok (.ifCond .eq 26, 3) := o153 (a := 0) (b := 26) (byt_of hR_person_b0 (j := 20) rfl) (byt_of hR_person_b0 (j := 21) rfl) (byt_of hR_person_b0 (j := 22) rfl) rfl
theorem dR_person_23 : decode (mcc mR_person) 23 = .ok (.iload 4, 2) := o21 (a := 4) (byt_of hR_person_b0 (j := 23) rfl) (byt_of hR_person_b0 (j := 24) rfl)
theorem dR_person_25 : decode (mcc mR_person) 25 = .ok (.ifCond .lt 21, 3) := o155 (a := 0) (b := 21) (byt_of hR_person_b0 (j := 25) rfl) (byt_of hR_person_b0 (j := 26) rfl) (byt_of hR_person_b0 (j := 27) rfl) rfl
theorem dR_person_28 : decode (mcc mR_person) 28 = .ok (.iload 4, 2) := o21 (a := 4) (byt_of hR_person_b0 (j := 28) rfl) (byt_of hR_person_b0 (j := 29) rfl)
theorem dR_person_30 : decode (mcc mR_person) 30 = .ok (.bipush 100, 2) := o16 (a := 100) (byt_of hR_person_b0 (j := 30) rfl) (byt_of hR_person_b0 (j := 31) rfl) rfl
theorem dR_person_32 : decode (mcc mR_person) 32 = .ok (.idiv, 1) := o108 (byt_of hR_person_b0 (j := 32) rfl)
theorem dR_person_33 : decode (mcc mR_person) 33 = .ok (.iconst 1, 1) := o4 (byt_of hR_person_b0 (j := 33) rfl)
theorem dR_person_34 : decode (mcc mR_person) 34 = .ok (.bipush 9, 2) := o16 (a := 9) (byt_of hR_person_b0 (j := 34) rfl) (byt_of hR_person_b0 (j := 35) rfl) rfl
theorem dR_person_36 : decode (mcc mR_person) 36 = .ok (.invokestatic 151, 3) := o184 (a := 0) (b := 151) (byt_of hR_person_b0 (j := 36) rfl) (byt_of hR_person_b0 (j := 37) rfl) (byt_of hR_person_b0 (j := 38) rfl) rfl
theorem dR_person_39 : decode (mcc mR_person) 39 = .ok (.ifCond .eq 7, 3) := o153 (a := 0) (b := 7) (byt_of hR_person_b0 (j := 39) rfl) (byt_of hR_person_b0 (j := 40) rfl) (byt_of hR_person_b0 (j := 41) rfl) rfl
theorem dR_person_42 : decode (mcc mR_person) 42 = .ok (.iconst 1, 1) := o4 (byt_of hR_person_b0 (j := 42) rfl)
theorem dR_person_43 : decode (mcc mR_person) 43 = .ok (.goto 4, 3) := o167 (a := 0) (b := 4) (byt_of hR_person_b0 (j := 43) rfl) (byt_of hR_person_b0 (j := 44) rfl) (byt_of hR_person_b0 (j := 45) rfl) rfl
theorem dR_person_46 : decode (mcc mR_person) 46 = .ok (.iconst 0, 1) := o3 (byt_of hR_person_b0 (j := 46) rfl)
theorem dR_person_47 : decode (mcc mR_person) 47 = .ok (.istore 5, 2) := o54 (a := 5) (byt_of hR_person_b0 (j := 47) rfl) (byt_of hR_person_b0 (j := 48) rfl)
theorem dR_person_49 : decode (mcc mR_person) 49 = .ok (.iload_n 1, 1) := o27 (byt_of hR_person_b0 (j := 49) rfl)
theorem dR_person_50 : decode (mcc mR_person) 50 = .ok (.iconst 0, 1) := o3 (byt_of hR_person_b0 (j := 50) rfl)
theorem dR_person_51 : decode (mcc mR_person) 51 = .ok (.iconst 5, 1) := o8 (byt_of hR_person_b0 (j := 51) rfl)
theorem dR_person_52 : decode (mcc mR_person) 52 = .ok (.invokestatic 151, 3) := o184 (a := 0) (b := 151) (byt_of hR_person_b0 (j := 52) rfl) (byt_of hR_person_b0 (j := 53) rfl) (byt_of hR_person_b0 (j := 54) rfl) rfl
theorem dR_person_55 : decode (mcc mR_person) 55 = .ok (.ifCond .eq 8, 3) := o153 (a := 0) (b := 8) (byt_of hR_person_b0 (j := 55) rfl) (byt_of hR_person_b0 (j := 56) rfl) (byt_of hR_person_b0 (j := 57) rfl) rfl
theorem dR_person_58 : decode (mcc mR_person) 58 = .ok (.iload 5, 2) := o21 (a := 5) (byt_of hR_person_b0 (j := 58) rfl) (byt_of hR_person_b0 (j := 59) rfl)
theorem dR_person_60 : decode (mcc mR_person) 60 = .ok (.ifCond .ne 6, 3) := o154 (a := 0) (b := 6) (byt_of hR_person_b0 (j := 60) rfl) (byt_of hR_person_b0 (j := 61) rfl) (byt_of hR_person_b0 (j := 62) rfl) rfl
theorem dR_person_63 : decode (mcc mR_person) 63 = .ok (.bipush (-2), 2) := o16 (a := 254) (byt_of hR_person_b0 (j := 63) rfl) (byt_of hR_person_b0 (j := 64) rfl) rfl
theorem dR_person_65 : decode (mcc mR_person) 65 = .ok (.ireturn, 1) := o172 (byt_of hR_person_b0 (j := 65) rfl)
theorem dR_person_66 : decode (mcc mR_person) 66 = .ok (.aload_n 0, 1) := o42 (byt_of hR_person_b0 (j := 66) rfl)
theorem dR_person_67 : decode (mcc mR_person) 67 = .ok (.getfield 148, 3) := o180 (a := 0) (b := 148) (byt_of hR_person_b0 (j := 67) rfl) (byt_of hR_person_b0 (j := 68) rfl) (byt_of hR_person_b0 (j := 69) rfl) rfl
theorem dR_person_70 : decode (mcc mR_person) 70 = .ok (.bipush 8, 2) := o16 (a := 8) (byt_of hR_person_b0 (j := 70) rfl) (byt_of hR_person_b0 (j := 71) rfl) rfl
theorem dR_person_72 : decode (mcc mR_person) 72 = .ok (.if_icmp .ne 6, 3) := o160 (a := 0) (b := 6) (byt_of hR_person_b0 (j := 72) rfl) (byt_of hR_person_b0 (j := 73) rfl) (byt_of hR_person_b0 (j := 74) rfl) rfl
theorem dR_person_75 : decode (mcc mR_person) 75 = .ok (.bipush (-4), 2) := o16 (a := 252) (byt_of hR_person_b0 (j := 75) rfl) (byt_of hR_person_b0 (j := 76) rfl) rfl
theorem dR_person_77 : decode (mcc mR_person) 77 = .ok (.ireturn, 1) := o172 (byt_of hR_person_b0 (j := 77) rfl)
theorem dR_person_78 : decode (mcc mR_person) 78 = .ok (.aload_n 0, 1) := o42 (byt_of hR_person_b0 (j := 78) rfl)
theorem dR_person_79 : decode (mcc mR_person) 79 = .ok (.getfield 20, 3) := o180 (a := 0) (b := 20) (byt_of hR_person_b0 (j := 79) rfl) (byt_of hR_person_b0 (j := 80) rfl) (byt_of hR_person_b0 (j := 81) rfl) rfl
theorem dR_person_82 : decode (mcc mR_person) 82 = .ok (.aload_n 0, 1) := o42 (byt_of hR_person_b0 (j := 82) rfl)
theorem dR_person_83 : decode (mcc mR_person) 83 = .ok (.getfield 148, 3) := o180 (a := 0) (b := 148) (byt_of hR_person_b0 (j := 83) rfl) (byt_of hR_person_b0 (j := 84) rfl) (byt_of hR_person_b0 (j := 85) rfl) rfl
theorem dR_person_86 : decode (mcc mR_person) 86 = .ok (.iload_n 1, 1) := o27 (byt_of hR_person_b0 (j := 86) rfl)
theorem dR_person_87 : decode (mcc mR_person) 87 = .ok (.iastore, 1) := o79 (byt_of hR_person_b0 (j := 87) rfl)
theorem dR_person_88 : decode (mcc mR_person) 88 = .ok (.aload_n 0, 1) := o42 (byt_of hR_person_b0 (j := 88) rfl)
theorem dR_person_89 : decode (mcc mR_person) 89 = .ok (.getfield 23, 3) := o180 (a := 0) (b := 23) (byt_of hR_person_b0 (j := 89) rfl) (byt_of hR_person_b0 (j := 90) rfl) (byt_of hR_person_b0 (j := 91) rfl) rfl
theorem dR_person_92 : decode (mcc mR_person) 92 = .ok (.aload_n 0, 1) := o42 (byt_of hR_person_b0 (j := 92) rfl)
theorem dR_person_93 : decode (mcc mR_person) 93 = .ok (.getfield 148, 3) := o180 (a := 0) (b := 148) (byt_of hR_person_b0 (j := 93) rfl) (byt_of hR_person_b0 (j := 94) rfl) (byt_of hR_person_b0 (j := 95) rfl) rfl
def bR_person_b1 : List Nat := [28, 16, 100, 108, 79, 42, 180, 0, 26, 42, 180, 0, 148, 28, 16, 10, 108, 16, 10, 112, 79, 42, 180, 0, 29, 42, 180, 0, 148, 28, 16, 10, 112, 79, 42, 180, 0, 32, 42, 180, 0, 148, 29, 79, 42, 180, 0, 35, 42, 180, 0, 148, 21, 4, 16, 100, 108, 79, 42, 180, 0, 38, 42, 180, 0, 148, 21, 4, 16, 100, 112, 79, 42, 180, 0, 41, 42, 180, 0, 148, 2, 79, 42, 89, 180, 0, 148, 4, 96, 181, 0, 148, 42, 180, 0, 148, 4, 100, 172]
theorem hR_person_b1 : BL (mcc mR_person) 96 bR_person_b1 := by decide +kernel
theorem dR_person_96 : decode (mcc mR_person) 96 = .ok (.iload_n 2, 1) := o28 (byt_of hR_person_b1 (j := 0) rfl)
theorem dR_person_97 : decode (mcc mR_person) 97 = .ok (.bipush 100, 2) := o16 (a := 100) (byt_of hR_person_b1 (j := 1) rfl) (byt_of hR_person_b1 (j := 2) rfl) rfl
theorem dR_person_99 : decode (mcc mR_person) 99 = .ok (.idiv, 1) := o108 (byt_of hR_person_b1 (j := 3) rfl)
theorem dR_person_100 : decode (mcc mR_person) 100 = .ok (.iastore, 1) := o79 (byt_of hR_person_b1 (j := 4) rfl)
theorem dR_person_101 : decode (mcc mR_person) 101 = .ok (.aload_n 0, 1) := o42 (byt_of hR_person_b1 (j := 5) rfl)
theorem dR_person_102 : decode (mcc mR_person) 102 = .ok (.getfield 26, 3) := o180 (a := 0) (b := 26) (byt_of hR_person_b1 (j := 6) rfl) (byt_of hR_person_b1 (j := 7) rfl) (byt_of hR_person_b1 (j := 8) rfl) rfl
theorem dR_person_105 : decode (mcc mR_person) 105 = .ok (.aload_n 0, 1) := o42 (byt_of hR_person_b1 (j := 9) rfl)
theorem dR_person_106 : decode (mcc mR_person) 106 = .ok (.getfield 148, 3) := o180 (a := 0) (b := 148) (byt_of hR_person_b1 (j := 10) rfl) (byt_of hR_person_b1 (j := 11) rfl) (byt_of hR_person_b1 (j := 12) rfl) rfl
theorem dR_person_109 : decode (mcc mR_person) 109 = .ok (.iload_n 2, 1) := o28 (byt_of hR_person_b1 (j := 13) rfl)
theorem dR_person_110 : decode (mcc mR_person) 110 = .ok (.bipush 10, 2) := o16 (a := 10) (byt_of hR_person_b1 (j := 14) rfl) (byt_of hR_person_b1 (j := 15) rfl) rfl
theorem dR_person_112 : decode (mcc mR_person) 112 = .ok (.idiv, 1) := o108 (byt_of hR_person_b1 (j := 16) rfl)
theorem dR_person_113 : decode (mcc mR_person) 113 = .ok (.bipush 10, 2) := o16 (a := 10) (byt_of hR_person_b1 (j := 17) rfl) (byt_of hR_person_b1 (j := 18) rfl) rfl
theorem dR_person_115 : decode (mcc mR_person) 115 = .ok (.irem, 1) := o112 (byt_of hR_person_b1 (j := 19) rfl)
theorem dR_person_116 : decode (mcc mR_person) 116 = .ok (.iastore, 1) := o79 (byt_of hR_person_b1 (j := 20) rfl)
theorem dR_person_117 : decode (mcc mR_person) 117 = .ok (.aload_n 0, 1) := o42 (byt_of hR_person_b1 (j := 21) rfl)
theorem dR_person_118 : decode (mcc mR_person) 118 = .ok (.getfield 29, 3) := o180 (a := 0) (b := 29) (byt_of hR_person_b1 (j := 22) rfl) (byt_of hR_person_b1 (j := 23) rfl) (byt_of hR_person_b1 (j := 24) rfl) rfl
theorem dR_person_121 : decode (mcc mR_person) 121 = .ok (.aload_n 0, 1) := o42 (byt_of hR_person_b1 (j := 25) rfl)
theorem dR_person_122 : decode (mcc mR_person) 122 = .ok (.getfield 148, 3) := o180 (a := 0) (b := 148) (byt_of hR_person_b1 (j := 26) rfl) (byt_of hR_person_b1 (j := 27) rfl) (byt_of hR_person_b1 (j := 28) rfl) rfl
theorem dR_person_125 : decode (mcc mR_person) 125 = .ok (.iload_n 2, 1) := o28 (byt_of hR_person_b1 (j := 29) rfl)
theorem dR_person_126 : decode (mcc mR_person) 126 = .ok (.bipush 10, 2) := o16 (a := 10) (byt_of hR_person_b1 (j := 30) rfl) (byt_of hR_person_b1 (j := 31) rfl) rfl
theorem dR_person_128 : decode (mcc mR_person) 128 = .ok (.irem, 1) := o112 (byt_of hR_person_b1 (j := 32) rfl)
theorem dR_person_129 : decode (mcc mR_person) 129 = .ok (.iastore, 1) := o79 (byt_of hR_person_b1 (j := 33) rfl)
theorem dR_person_130 : decode (mcc mR_person) 130 = .ok (.aload_n 0, 1) := o42 (byt_of hR_person_b1 (j := 34) rfl)
theorem dR_person_131 : decode (mcc mR_person) 131 = .ok (.getfield 32, 3) := o180 (a := 0) (b := 32) (byt_of hR_person_b1 (j := 35) rfl) (byt_of hR_person_b1 (j := 36) rfl) (byt_of hR_person_b1 (j := 37) rfl) rfl
theorem dR_person_134 : decode (mcc mR_person) 134 = .ok (.aload_n 0, 1) := o42 (byt_of hR_person_b1 (j := 38) rfl)
theorem dR_person_135 : decode (mcc mR_person) 135 = .ok (.getfield 148, 3) := o180 (a := 0) (b := 148) (byt_of hR_person_b1 (j := 39) rfl) (byt_of hR_person_b1 (j := 40) rfl) (byt_of hR_person_b1 (j := 41) rfl) rfl
theorem dR_person_138 : decode (mcc mR_person) 138 = .ok (.iload_n 3, 1) := o29 (byt_of hR_person_b1 (j := 42) rfl)
theorem dR_person_139 : decode (mcc mR_person) 139 = .ok (.iastore, 1) := o79 (byt_of hR_person_b1 (j := 43) rfl)
theorem dR_person_140 : decode (mcc mR_person) 140 = .ok (.aload_n 0, 1) := o42 (byt_of hR_person_b1 (j := 44) rfl)
theorem dR_person_141 : decode (mcc mR_person) 141 = .ok (.getfield 35, 3) := o180 (a := 0) (b := 35) (byt_of hR_person_b1 (j := 45) rfl) (byt_of hR_person_b1 (j := 46) rfl) (byt_of hR_person_b1 (j := 47) rfl) rfl
theorem dR_person_144 : decode (mcc mR_person) 144 = .ok (.aload_n 0, 1) := o42 (byt_of hR_person_b1 (j := 48) rfl)
theorem dR_person_145 : decode (mcc mR_person) 145 = .ok (.getfield 148, 3) := o180 (a := 0) (b := 148) (byt_of hR_person_b1 (j := 49) rfl) (byt_of hR_person_b1 (j := 50) rfl) (byt_of hR_person_b1 (j := 51) rfl) rfl
theorem dR_person_148 : decode (mcc mR_person) 148 = .ok (.iload 4, 2) := o21 (a := 4) (byt_of hR_person_b1 (j := 52) rfl) (byt_of hR_person_b1 (j := 53) rfl)
theorem dR_person_150 : decode (mcc mR_person) 150 = .ok (.bipush 100, 2) := o16 (a := 100) (byt_of hR_person_b1 (j := 54) rfl) (byt_of hR_person_b1 (j := 55) rfl) rfl
theorem dR_person_152 : decode (mcc mR_person) 152 = .ok (.idiv, 1) := o108 (byt_of hR_person_b1 (j := 56) rfl)
theorem dR_person_153 : decode (mcc mR_person) 153 = .ok (.iastore, 1) := o79 (byt_of hR_person_b1 (j := 57) rfl)
theorem dR_person_154 : decode (mcc mR_person) 154 = .ok (.aload_n 0, 1) := o42 (byt_of hR_person_b1 (j := 58) rfl)
theorem dR_person_155 : decode (mcc mR_person) 155 = .ok (.getfield 38, 3) := o180 (a := 0) (b := 38) (byt_of hR_person_b1 (j := 59) rfl) (byt_of hR_person_b1 (j := 60) rfl) (byt_of hR_person_b1 (j := 61) rfl) rfl
theorem dR_person_158 : decode (mcc mR_person) 158 = .ok (.aload_n 0, 1) := o42 (byt_of hR_person_b1 (j := 62) rfl)
theorem dR_person_159 : decode (mcc mR_person) 159 = .ok (.getfield 148, 3) := o180 (a := 0) (b := 148) (byt_of hR_person_b1 (j := 63) rfl) (byt_of hR_person_b1 (j := 64) rfl) (byt_of hR_person_b1 (j := 65) rfl) rfl
theorem dR_person_162 : decode (mcc mR_person) 162 = .ok (.iload 4, 2) := o21 (a := 4) (byt_of hR_person_b1 (j := 66) rfl) (byt_of hR_person_b1 (j := 67) rfl)
theorem dR_person_164 : decode (mcc mR_person) 164 = .ok (.bipush 100, 2) := o16 (a := 100) (byt_of hR_person_b1 (j := 68) rfl) (byt_of hR_person_b1 (j := 69) rfl) rfl
theorem dR_person_166 : decode (mcc mR_person) 166 = .ok (.irem, 1) := o112 (byt_of hR_person_b1 (j := 70) rfl)
theorem dR_person_167 : decode (mcc mR_person) 167 = .ok (.iastore, 1) := o79 (byt_of hR_person_b1 (j := 71) rfl)
theorem dR_person_168 : decode (mcc mR_person) 168 = .ok (.aload_n 0, 1) := o42 (byt_of hR_person_b1 (j := 72) rfl)
theorem dR_person_169 : decode (mcc mR_person) 169 = .ok (.getfield 41, 3) := o180 (a := 0) (b := 41) (byt_of hR_person_b1 (j := 73) rfl) (byt_of hR_person_b1 (j := 74) rfl) (byt_of hR_person_b1 (j := 75) rfl) rfl
theorem dR_person_172 : decode (mcc mR_person) 172 = .ok (.aload_n 0, 1) := o42 (byt_of hR_person_b1 (j := 76) rfl)
theorem dR_person_173 : decode (mcc mR_person) 173 = .ok (.getfield 148, 3) := o180 (a := 0) (b := 148) (byt_of hR_person_b1 (j := 77) rfl) (byt_of hR_person_b1 (j := 78) rfl) (byt_of hR_person_b1 (j := 79) rfl) rfl
theorem dR_person_176 : decode (mcc mR_person) 176 = .ok (.iconst (-1), 1) := o2 (byt_of hR_person_b1 (j := 80) rfl)
theorem dR_person_177 : decode (mcc mR_person) 177 = .ok (.iastore, 1) := o79 (byt_of hR_person_b1 (j := 81) rfl)
theorem dR_person_178 : decode (mcc mR_person) 178 = .ok (.aload_n 0, 1) := o42 (byt_of hR_person_b1 (j := 82) rfl)
theorem dR_person_179 : decode (mcc mR_person) 179 = .ok (.dup, 1) := o89 (byt_of hR_person_b1 (j := 83) rfl)
theorem dR_person_180 : decode (mcc mR_person) 180 = .ok (.getfield 148, 3) := o180 (a := 0) (b := 148) (byt_of hR_person_b1 (j := 84) rfl) (byt_of hR_person_b1 (j := 85) rfl) (byt_of hR_person_b1 (j := 86) rfl) rfl
theorem dR_person_183 : decode (mcc mR_person) 183 = .ok (.iconst 1, 1) := o4 (byt_of hR_person_b1 (j := 87) rfl)
theorem dR_person_184 : decode (mcc mR_person) 184 = .ok (.iadd, 1) := o96 (byt_of hR_person_b1 (j := 88) rfl)
theorem dR_person_185 : decode (mcc mR_person) 185 = .ok (.putfield 148, 3) := o181 (a := 0) (b := 148) (byt_of hR_person_b1 (j := 89) rfl) (byt_of hR_person_b1 (j := 90) rfl) (byt_of hR_person_b1 (j := 91) rfl) rfl
theorem dR_person_188 : decode (mcc mR_person) 188 = .ok (.aload_n 0, 1) := o42 (byt_of hR_person_b1 (j := 92) rfl)
theorem dR_person_189 : decode (mcc mR_person) 189 = .ok (.getfield 148, 3) := o180 (a := 0) (b := 148) (byt_of hR_person_b1 (j := 93) rfl) (byt_of hR_person_b1 (j := 94) rfl) (byt_of hR_person_b1 (j := 95) rfl) rfl
def bR_person_b2 : List Nat := [4, 100, 172]
theorem hR_person_b2 : BL (mcc mR_person) 192 bR_person_b2 := by decide +kernel
theorem dR_person_192 : decode (mcc mR_person) 192 = .ok (.iconst 1, 1) := o4 (byt_of hR_person_b2 (j := 0) rfl)
theorem dR_person_193 : decode (mcc mR_person) 193 = .ok (.isub, 1) := o100 (byt_of hR_person_b2 (j := 1) rfl)
theorem dR_person_194 : decode (mcc mR_person) 194 = .ok (.ireturn, 1) := o172 (byt_of hR_person_b2 (j := 2) rfl)
def bR_move_b0 : List Nat := [42, 27, 182, 0, 230, 154, 0, 6, 16, 251, 172, 28, 2, 8, 184, 0, 151, 154, 0, 6, 16, 249, 172, 42, 180, 0, 41, 27, 46, 62, 42, 180, 0, 41, 27, 28, 79, 29, 172]
theorem hR_move_b0 : BL (mcc mR_move) 0 bR_move_b0 := by decide +kernel
theorem dR_move_0 : decode (mcc mR_move) 0 = .ok (.aload_n 0, 1) := o42 (byt_of hR_move_b0 (j := 0) rfl)
theorem dR_move_1 : decode (mcc mR_move) 1 = .ok (.iload_n 1, 1) := o27 (byt_of hR_move_b0 (j := 1) rfl)
theorem dR_move_2 : decode (mcc mR_move) 2 = .ok (.invokevirtual 230, 3) := o182 (a := 0) (b := 230) (byt_of hR_move_b0 (j := 2) rfl) (byt_of hR_move_b0 (j := 3) rfl) (byt_of hR_move_b0 (j := 4) rfl) rfl
theorem dR_move_5 : decode (mcc mR_move) 5 = .ok (.ifCond .ne 6, 3) := o154 (a := 0) (b := 6) (byt_of hR_move_b0 (j := 5) rfl) (byt_of hR_move_b0 (j := 6) rfl) (byt_of hR_move_b0 (j := 7) rfl) rfl
theorem dR_move_8 : decode (mcc mR_move) 8 = .ok (.bipush (-5), 2) := o16 (a := 251) (byt_of hR_move_b0 (j := 8) rfl) (byt_of hR_move_b0 (j := 9) rfl) rfl
theorem dR_move_10 : decode (mcc mR_move) 10 = .ok (.ireturn, 1) := o172 (byt_of hR_move_b0 (j := 10) rfl)
theorem dR_move_11 : decode (mcc mR_move) 11 = .ok (.iload_n 2, 1) := o28 (byt_of hR_move_b0 (j := 11) rfl)
theorem dR_move_12 : decode (mcc mR_move) 12 = .ok (.iconst (-1), 1) := o2 (byt_of hR_move_b0 (j := 12) rfl)
theorem dR_move_13 : decode (mcc mR_move) 13 = .ok (.iconst 5, 1) := o8 (byt_of hR_move_b0 (j := 13) rfl)
theorem dR_move_14 : decode (mcc mR_move) 14 = .ok (.invokestatic 151, 3) := o184 (a := 0) (b := 151) (byt_of hR_move_b0 (j := 14) rfl) (byt_of hR_move_b0 (j := 15) rfl) (byt_of hR_move_b0 (j := 16) rfl) rfl
theorem dR_move_17 : decode (mcc mR_move) 17 = .ok (.ifCond .ne 6, 3) := o154 (a := 0) (b := 6) (byt_of hR_move_b0 (j := 17) rfl) (byt_of hR_move_b0 (j := 18) rfl) (byt_of hR_move_b0 (j := 19) rfl) rfl
theorem dR_move_20 : decode (mcc mR_move) 20 = .ok (.bipush (-7), 2) := o16 (a := 249) (byt_of hR_move_b0 (j := 20) rfl) (byt_of hR_move_b0 (j := 21) rfl) rfl
theorem dR_move_22 : decode (mcc mR_move) 22 = .ok (.ireturn, 1) := o172 (byt_of hR_move_b0 (j := 22) rfl)
theorem dR_move_23 : decode (mcc mR_move) 23 = .ok (.aload_n 0, 1) := o42 (byt_of hR_move_b0 (j := 23) rfl)
theorem dR_move_24 : decode (mcc mR_move) 24 = .ok (.getfield 41, 3) := o180 (a := 0) (b := 41) (byt_of hR_move_b0 (j := 24) rfl) (byt_of hR_move_b0 (j := 25) rfl) (byt_of hR_move_b0 (j := 26) rfl) rfl
theorem dR_move_27 : decode (mcc mR_move) 27 = .ok (.iload_n 1, 1) := o27 (byt_of hR_move_b0 (j := 27) rfl)
theorem dR_move_28 : decode (mcc mR_move) 28 = .ok (.iaload, 1) := o46 (byt_of hR_move_b0 (j := 28) rfl)
theorem dR_move_29 : decode (mcc mR_move) 29 = .ok (.istore_n 3, 1) := o62 (byt_of hR_move_b0 (j := 29) rfl)
theorem dR_move_30 : decode (mcc mR_move) 30 = .ok (.aload_n 0, 1) := o42 (byt_of hR_move_b0 (j := 30) rfl)
theorem dR_move_31 : decode (mcc mR_move) 31 = .ok (.getfield 41, 3) := o180 (a := 0) (b := 41) (byt_of hR_move_b0 (j := 31) rfl) (byt_of hR_move_b0 (j := 32) rfl) (byt_of hR_move_b0 (j := 33) rfl) rfl
theorem dR_move_34 : decode (mcc mR_move) 34 = .ok (.iload_n 1, 1) := o27 (byt_of hR_move_b0 (j := 34) rfl)
theorem dR_move_35 : decode (mcc mR_move) 35 = .ok (.iload_n 2, 1) := o28 (byt_of hR_move_b0 (j := 35) rfl)
theorem dR_move_36 : decode (mcc mR_move) 36 = .ok (.iastore, 1) := o79 (byt_of hR_move_b0 (j := 36) rfl)
theorem dR_move_37 : decode (mcc mR_move) 37 = .ok (.iload_n 3, 1) := o29 (byt_of hR_move_b0 (j := 37) rfl)
theorem dR_move_38 : decode (mcc mR_move) 38 = .ok (.ireturn, 1) := o172 (byt_of hR_move_b0 (j := 38) rfl)
def bR_whereIs_b0 : List Nat := [42, 180, 0, 41, 27, 46, 2, 160, 0, 12, 42, 180, 0, 23, 27, 46, 167, 0, 9, 42, 180, 0, 41, 27, 46, 62, 42, 180, 0, 20, 27, 46, 54, 4, 21, 4, 6, 160, 0, 14, 28, 5, 6, 184, 0, 151, 153, 0, 5, 3, 172, 21, 4, 4, 159, 0, 15, 21, 4, 6, 159, 0, 9, 21, 4, 8, 160, 0, 32, 29, 28, 42, 180, 0, 29, 27, 46, 154, 0, 7, 4, 167, 0, 9, 42, 180, 0, 29, 27, 46, 108, 96, 16, 6, 112, 167, 0, 4, 29, 172]
theorem hR_whereIs_b0 : BL (mcc mR_whereIs) 0 bR_whereIs_b0 := by decide +kernel
theorem dR_whereIs_0 : decode (mcc mR_whereIs) 0 = .ok (.aload_n 0, 1) := o42 (byt_of hR_whereIs_b0 (j := 0) rfl)
theorem dR_whereIs_1 : decode (mcc mR_whereIs) 1 = .ok (.getfield 41, 3) := o180 (a := 0) (b := 41) (byt_of hR_whereIs_b0 (j := 1) rfl) (byt_of hR_whereIs_b0 (j := 2) rfl) (byt_of hR_whereIs_b0 (j := 3) rfl) rfl
theorem dR_whereIs_4 : decode (mcc mR_whereIs) 4 = .ok (.iload_n 1, 1) := o27 (byt_of hR_whereIs_b0 (j := 4) rfl)
theorem dR_whereIs_5 : decode (mcc mR_whereIs) 5 = .ok (.iaload, 1) := o46 (byt_of hR_whereIs_b0 (j := 5) rfl)
theorem dR_whereIs_6 : decode (mcc mR_whereIs) 6 = .ok (.iconst (-1), 1) := o2 (byt_of hR_whereIs_b0 (j := 6) rfl)
theorem dR_whereIs_7 : decode (mcc mR_whereIs) 7 = .ok (.if_icmp .ne 12, 3) := o160 (a := 0) (b := 12) (byt_of hR_whereIs_b0 (j := 7) rfl) (byt_of hR_whereIs_b0 (j := 8) rfl) (byt_of hR_whereIs_b0 (j := 9) rfl) rfl
theorem dR_whereIs_10 : decode (mcc mR_whereIs) 10 = .ok (.aload_n 0, 1) := o42 (byt_of hR_whereIs_b0 (j := 10) rfl)
theorem dR_whereIs_11 : decode (mcc mR_whereIs) 11 = .ok (.getfield 23, 3) := o180 (a := 0) (b := 23) (byt_of hR_whereIs_b0 (j := 11) rfl) (byt_of hR_whereIs_b0 (j := 12) rfl) (byt_of hR_whereIs_b0 (j := 13) rfl) rfl
theorem dR_whereIs_14 : decode (mcc mR_whereIs) 14 = .ok (.iload_n 1, 1) := o27 (byt_of hR_whereIs_b0 (j := 14) rfl)
theorem dR_whereIs_15 : decode (mcc mR_whereIs) 15 = .ok (.iaload, 1) := o46 (byt_of hR_whereIs_b0 (j := 15) rfl)
theorem dR_whereIs_16 : decode (mcc mR_whereIs) 16 = .ok (.goto 9, 3) := o167 (a := 0) (b := 9) (byt_of hR_whereIs_b0 (j := 16) rfl) (byt_of hR_whereIs_b0 (j := 17) rfl) (byt_of hR_whereIs_b0 (j := 18) rfl) rfl
theorem dR_whereIs_19 : decode (mcc mR_whereIs) 19 = .ok (.aload_n 0, 1) := o42 (byt_of hR_whereIs_b0 (j := 19) rfl)
theorem dR_whereIs_20 : decode (mcc mR_whereIs) 20 = .ok (.getfield 41, 3) := o180 (a := 0) (b := 41) (byt_of hR_whereIs_b0 (j := 20) rfl) (byt_of hR_whereIs_b0 (j := 21) rfl) (byt_of hR_whereIs_b0 (j := 22) rfl) rfl
theorem dR_whereIs_23 : decode (mcc mR_whereIs) 23 = .ok (.iload_n 1, 1) := o27 (byt_of hR_whereIs_b0 (j := 23) rfl)
theorem dR_whereIs_24 : decode (mcc mR_whereIs) 24 = .ok (.iaload, 1) := o46 (byt_of hR_whereIs_b0 (j := 24) rfl)
theorem dR_whereIs_25 : decode (mcc mR_whereIs) 25 = .ok (.istore_n 3, 1) := o62 (byt_of hR_whereIs_b0 (j := 25) rfl)
theorem dR_whereIs_26 : decode (mcc mR_whereIs) 26 = .ok (.aload_n 0, 1) := o42 (byt_of hR_whereIs_b0 (j := 26) rfl)
theorem dR_whereIs_27 : decode (mcc mR_whereIs) 27 = .ok (.getfield 20, 3) := o180 (a := 0) (b := 20) (byt_of hR_whereIs_b0 (j := 27) rfl) (byt_of hR_whereIs_b0 (j := 28) rfl) (byt_of hR_whereIs_b0 (j := 29) rfl) rfl
theorem dR_whereIs_30 : decode (mcc mR_whereIs) 30 = .ok (.iload_n 1, 1) := o27 (byt_of hR_whereIs_b0 (j := 30) rfl)
theorem dR_whereIs_31 : decode (mcc mR_whereIs) 31 = .ok (.iaload, 1) := o46 (byt_of hR_whereIs_b0 (j := 31) rfl)
theorem dR_whereIs_32 : decode (mcc mR_whereIs) 32 = .ok (.istore 4, 2) := o54 (a := 4) (byt_of hR_whereIs_b0 (j := 32) rfl) (byt_of hR_whereIs_b0 (j := 33) rfl)
theorem dR_whereIs_34 : decode (mcc mR_whereIs) 34 = .ok (.iload 4, 2) := o21 (a := 4) (byt_of hR_whereIs_b0 (j := 34) rfl) (byt_of hR_whereIs_b0 (j := 35) rfl)
theorem dR_whereIs_36 : decode (mcc mR_whereIs) 36 = .ok (.iconst 3, 1) := o6 (byt_of hR_whereIs_b0 (j := 36) rfl)
theorem dR_whereIs_37 : decode (mcc mR_whereIs) 37 = .ok (.if_icmp .ne 14, 3) := o160 (a := 0) (b := 14) (byt_of hR_whereIs_b0 (j := 37) rfl) (byt_of hR_whereIs_b0 (j := 38) rfl) (byt_of hR_whereIs_b0 (j := 39) rfl) rfl
theorem dR_whereIs_40 : decode (mcc mR_whereIs) 40 = .ok (.iload_n 2, 1) := o28 (byt_of hR_whereIs_b0 (j := 40) rfl)
theorem dR_whereIs_41 : decode (mcc mR_whereIs) 41 = .ok (.iconst 2, 1) := o5 (byt_of hR_whereIs_b0 (j := 41) rfl)
theorem dR_whereIs_42 : decode (mcc mR_whereIs) 42 = .ok (.iconst 3, 1) := o6 (byt_of hR_whereIs_b0 (j := 42) rfl)
theorem dR_whereIs_43 : decode (mcc mR_whereIs) 43 = .ok (.invokestatic 151, 3) := o184 (a := 0) (b := 151) (byt_of hR_whereIs_b0 (j := 43) rfl) (byt_of hR_whereIs_b0 (j := 44) rfl) (byt_of hR_whereIs_b0 (j := 45) rfl) rfl
theorem dR_whereIs_46 : decode (mcc mR_whereIs) 46 = .ok (.ifCond .eq 5, 3) := o153 (a := 0) (b := 5) (byt_of hR_whereIs_b0 (j := 46) rfl) (byt_of hR_whereIs_b0 (j := 47) rfl) (byt_of hR_whereIs_b0 (j := 48) rfl) rfl
theorem dR_whereIs_49 : decode (mcc mR_whereIs) 49 = .ok (.iconst 0, 1) := o3 (byt_of hR_whereIs_b0 (j := 49) rfl)
theorem dR_whereIs_50 : decode (mcc mR_whereIs) 50 = .ok (.ireturn, 1) := o172 (byt_of hR_whereIs_b0 (j := 50) rfl)
theorem dR_whereIs_51 : decode (mcc mR_whereIs) 51 = .ok (.iload 4, 2) := o21 (a := 4) (byt_of hR_whereIs_b0 (j := 51) rfl) (byt_of hR_whereIs_b0 (j := 52) rfl)
theorem dR_whereIs_53 : decode (mcc mR_whereIs) 53 = .ok (.iconst 1, 1) := o4 (byt_of hR_whereIs_b0 (j := 53) rfl)
theorem dR_whereIs_54 : decode (mcc mR_whereIs) 54 = .ok (.if_icmp .eq 15, 3) := o159 (a := 0) (b := 15) (byt_of hR_whereIs_b0 (j := 54) rfl) (byt_of hR_whereIs_b0 (j := 55) rfl) (byt_of hR_whereIs_b0 (j := 56) rfl) rfl
theorem dR_whereIs_57 : decode (mcc mR_whereIs) 57 = .ok (.iload 4, 2) := o21 (a := 4) (byt_of hR_whereIs_b0 (j := 57) rfl) (byt_of hR_whereIs_b0 (j := 58) rfl)
theorem dR_whereIs_59 : decode (mcc mR_whereIs) 59 = .ok (.iconst 3, 1) := o6 (byt_of hR_whereIs_b0 (j := 59) rfl)
theorem dR_whereIs_60 : decode (mcc mR_whereIs) 60 = .ok (.if_icmp .eq 9, 3) := o159 (a := 0) (b := 9) (byt_of hR_whereIs_b0 (j := 60) rfl) (byt_of hR_whereIs_b0 (j := 61) rfl) (byt_of hR_whereIs_b0 (j := 62) rfl) rfl
theorem dR_whereIs_63 : decode (mcc mR_whereIs) 63 = .ok (.iload 4, 2) := o21 (a := 4) (byt_of hR_whereIs_b0 (j := 63) rfl) (byt_of hR_whereIs_b0 (j := 64) rfl)
theorem dR_whereIs_65 : decode (mcc mR_whereIs) 65 = .ok (.iconst 5, 1) := o8 (byt_of hR_whereIs_b0 (j := 65) rfl)
theorem dR_whereIs_66 : decode (mcc mR_whereIs) 66 = .ok (.if_icmp .ne 32, 3) := o160 (a := 0) (b := 32) (byt_of hR_whereIs_b0 (j := 66) rfl) (byt_of hR_whereIs_b0 (j := 67) rfl) (byt_of hR_whereIs_b0 (j := 68) rfl) rfl
theorem dR_whereIs_69 : decode (mcc mR_whereIs) 69 = .ok (.iload_n 3, 1) := o29 (byt_of hR_whereIs_b0 (j := 69) rfl)
theorem dR_whereIs_70 : decode (mcc mR_whereIs) 70 = .ok (.iload_n 2, 1) := o28 (byt_of hR_whereIs_b0 (j := 70) rfl)
theorem dR_whereIs_71 : decode (mcc mR_whereIs) 71 = .ok (.aload_n 0, 1) := o42 (byt_of hR_whereIs_b0 (j := 71) rfl)
theorem dR_whereIs_72 : decode (mcc mR_whereIs) 72 = .ok (.getfield 29, 3) := o180 (a := 0) (b := 29) (byt_of hR_whereIs_b0 (j := 72) rfl) (byt_of hR_whereIs_b0 (j := 73) rfl) (byt_of hR_whereIs_b0 (j := 74) rfl) rfl
theorem dR_whereIs_75 : decode (mcc mR_whereIs) 75 = .ok (.iload_n 1, 1) := o27 (byt_of hR_whereIs_b0 (j := 75) rfl)
theorem dR_whereIs_76 : decode (mcc mR_whereIs) 76 = .ok (.iaload, 1) := o46 (byt_of hR_whereIs_b0 (j := 76) rfl)
theorem dR_whereIs_77 : decode (mcc mR_whereIs) 77 = .ok (.ifCond .ne 7, 3) := o154 (a := 0) (b := 7) (byt_of hR_whereIs_b0 (j := 77) rfl) (byt_of hR_whereIs_b0 (j := 78) rfl) (byt_of hR_whereIs_b0 (j := 79) rfl) rfl
theorem dR_whereIs_80 : decode (mcc mR_whereIs) 80 = .ok (.iconst 1, 1) := o4 (byt_of hR_whereIs_b0 (j := 80) rfl)
theorem dR_whereIs_81 : decode (mcc mR_whereIs) 81 = .ok (.goto 9, 3) := o167 (a := 0) (b := 9) (byt_of hR_whereIs_b0 (j := 81) rfl) (byt_of hR_whereIs_b0 (j := 82) rfl) (byt_of hR_whereIs_b0 (j := 83) rfl) rfl
theorem dR_whereIs_84 : decode (mcc mR_whereIs) 84 = .ok (.aload_n 0, 1) := o42 (byt_of hR_whereIs_b0 (j := 84) rfl)
theorem dR_whereIs_85 : decode (mcc mR_whereIs) 85 = .ok (.getfield 29, 3) := o180 (a := 0) (b := 29) (byt_of hR_whereIs_b0 (j := 85) rfl) (byt_of hR_whereIs_b0 (j := 86) rfl) (byt_of hR_whereIs_b0 (j := 87) rfl) rfl
theorem dR_whereIs_88 : decode (mcc mR_whereIs) 88 = .ok (.iload_n 1, 1) := o27 (byt_of hR_whereIs_b0 (j := 88) rfl)
theorem dR_whereIs_89 : decode (mcc mR_whereIs) 89 = .ok (.iaload, 1) := o46 (byt_of hR_whereIs_b0 (j := 89) rfl)
theorem dR_whereIs_90 : decode (mcc mR_whereIs) 90 = .ok (.idiv, 1) := o108 (byt_of hR_whereIs_b0 (j := 90) rfl)
theorem dR_whereIs_91 : decode (mcc mR_whereIs) 91 = .ok (.iadd, 1) := o96 (byt_of hR_whereIs_b0 (j := 91) rfl)
theorem dR_whereIs_92 : decode (mcc mR_whereIs) 92 = .ok (.bipush 6, 2) := o16 (a := 6) (byt_of hR_whereIs_b0 (j := 92) rfl) (byt_of hR_whereIs_b0 (j := 93) rfl) rfl
theorem dR_whereIs_94 : decode (mcc mR_whereIs) 94 = .ok (.irem, 1) := o112 (byt_of hR_whereIs_b0 (j := 94) rfl)
theorem dR_whereIs_95 : decode (mcc mR_whereIs) 95 = .ok (.goto 4, 3) := o167 (a := 0) (b := 4) (byt_of hR_whereIs_b0 (j := 95) rfl) (byt_of hR_whereIs_b0 (j := 96) rfl) (byt_of hR_whereIs_b0 (j := 97) rfl) rfl
def bR_whereIs_b1 : List Nat := [0, 4, 29, 172]
theorem hR_whereIs_b1 : BL (mcc mR_whereIs) 96 bR_whereIs_b1 := by decide +kernel
theorem dR_whereIs_98 : decode (mcc mR_whereIs) 98 = .ok (.iload_n 3, 1) := o29 (byt_of hR_whereIs_b1 (j := 2) rfl)
theorem dR_whereIs_99 : decode (mcc mR_whereIs) 99 = .ok (.ireturn, 1) := o172 (byt_of hR_whereIs_b1 (j := 3) rfl)
def bR_told_b0 : List Nat := [42, 27, 182, 0, 230, 154, 0, 6, 16, 251, 172, 28, 170, 0, 0, 0, 0, 0, 0, 93, 0, 0, 0, 0, 0, 0, 0, 6, 0, 0, 0, 44, 0, 0, 0, 51, 0, 0, 0, 58, 0, 0, 0, 65, 0, 0, 0, 72, 0, 0, 0, 79, 0, 0, 0, 86, 42, 180, 0, 20, 27, 46, 172, 42, 180, 0, 23, 27, 46, 172, 42, 180, 0, 26, 27, 46, 172, 42, 180, 0, 29, 27, 46, 172, 42, 180, 0, 32, 27, 46, 172, 42, 180, 0, 35, 27, 46, 172, 42, 180, 0, 38]
theorem hR_told_b0 : BL (mcc mR_told) 0 bR_told_b0 := by decide +kernel
theorem dR_told_0 : decode (mcc mR_told) 0 = .ok (.aload_n 0, 1) := o42 (byt_of hR_told_b0 (j := 0) rfl)
theorem dR_told_1 : decode (mcc mR_told) 1 = .ok (.iload_n 1, 1) := o27 (byt_of hR_told_b0 (j := 1) rfl)
theorem dR_told_2 : decode (mcc mR_told) 2 = .ok (.invokevirtual 230, 3) := o182 (a := 0) (b := 230) (byt_of hR_told_b0 (j := 2) rfl) (byt_of hR_told_b0 (j := 3) rfl) (byt_of hR_told_b0 (j := 4) rfl) rfl
theorem dR_told_5 : decode (mcc mR_told) 5 = .ok (.ifCond .ne 6, 3) := o154 (a := 0) (b := 6) (byt_of hR_told_b0 (j := 5) rfl) (byt_of hR_told_b0 (j := 6) rfl) (byt_of hR_told_b0 (j := 7) rfl) rfl
theorem dR_told_8 : decode (mcc mR_told) 8 = .ok (.bipush (-5), 2) := o16 (a := 251) (byt_of hR_told_b0 (j := 8) rfl) (byt_of hR_told_b0 (j := 9) rfl) rfl
theorem dR_told_10 : decode (mcc mR_told) 10 = .ok (.ireturn, 1) := o172 (byt_of hR_told_b0 (j := 10) rfl)
theorem dR_told_11 : decode (mcc mR_told) 11 = .ok (.iload_n 2, 1) := o28 (byt_of hR_told_b0 (j := 11) rfl)
theorem dR_told_12 : decode (mcc mR_told) 12 = .ok (.tableswitch 93 0 6 #[44, 51, 58, 65, 72, 79, 86], 44) := by decide +kernel
theorem dR_told_56 : decode (mcc mR_told) 56 = .ok (.aload_n 0, 1) := o42 (byt_of hR_told_b0 (j := 56) rfl)
theorem dR_told_57 : decode (mcc mR_told) 57 = .ok (.getfield 20, 3) := o180 (a := 0) (b := 20) (byt_of hR_told_b0 (j := 57) rfl) (byt_of hR_told_b0 (j := 58) rfl) (byt_of hR_told_b0 (j := 59) rfl) rfl
theorem dR_told_60 : decode (mcc mR_told) 60 = .ok (.iload_n 1, 1) := o27 (byt_of hR_told_b0 (j := 60) rfl)
theorem dR_told_61 : decode (mcc mR_told) 61 = .ok (.iaload, 1) := o46 (byt_of hR_told_b0 (j := 61) rfl)
theorem dR_told_62 : decode (mcc mR_told) 62 = .ok (.ireturn, 1) := o172 (byt_of hR_told_b0 (j := 62) rfl)
theorem dR_told_63 : decode (mcc mR_told) 63 = .ok (.aload_n 0, 1) := o42 (byt_of hR_told_b0 (j := 63) rfl)
theorem dR_told_64 : decode (mcc mR_told) 64 = .ok (.getfield 23, 3) := o180 (a := 0) (b := 23) (byt_of hR_told_b0 (j := 64) rfl) (byt_of hR_told_b0 (j := 65) rfl) (byt_of hR_told_b0 (j := 66) rfl) rfl
theorem dR_told_67 : decode (mcc mR_told) 67 = .ok (.iload_n 1, 1) := o27 (byt_of hR_told_b0 (j := 67) rfl)
theorem dR_told_68 : decode (mcc mR_told) 68 = .ok (.iaload, 1) := o46 (byt_of hR_told_b0 (j := 68) rfl)
theorem dR_told_69 : decode (mcc mR_told) 69 = .ok (.ireturn, 1) := o172 (byt_of hR_told_b0 (j := 69) rfl)
theorem dR_told_70 : decode (mcc mR_told) 70 = .ok (.aload_n 0, 1) := o42 (byt_of hR_told_b0 (j := 70) rfl)
theorem dR_told_71 : decode (mcc mR_told) 71 = .ok (.getfield 26, 3) := o180 (a := 0) (b := 26) (byt_of hR_told_b0 (j := 71) rfl) (byt_of hR_told_b0 (j := 72) rfl) (byt_of hR_told_b0 (j := 73) rfl) rfl
theorem dR_told_74 : decode (mcc mR_told) 74 = .ok (.iload_n 1, 1) := o27 (byt_of hR_told_b0 (j := 74) rfl)
theorem dR_told_75 : decode (mcc mR_told) 75 = .ok (.iaload, 1) := o46 (byt_of hR_told_b0 (j := 75) rfl)
theorem dR_told_76 : decode (mcc mR_told) 76 = .ok (.ireturn, 1) := o172 (byt_of hR_told_b0 (j := 76) rfl)
theorem dR_told_77 : decode (mcc mR_told) 77 = .ok (.aload_n 0, 1) := o42 (byt_of hR_told_b0 (j := 77) rfl)
theorem dR_told_78 : decode (mcc mR_told) 78 = .ok (.getfield 29, 3) := o180 (a := 0) (b := 29) (byt_of hR_told_b0 (j := 78) rfl) (byt_of hR_told_b0 (j := 79) rfl) (byt_of hR_told_b0 (j := 80) rfl) rfl
theorem dR_told_81 : decode (mcc mR_told) 81 = .ok (.iload_n 1, 1) := o27 (byt_of hR_told_b0 (j := 81) rfl)
theorem dR_told_82 : decode (mcc mR_told) 82 = .ok (.iaload, 1) := o46 (byt_of hR_told_b0 (j := 82) rfl)
theorem dR_told_83 : decode (mcc mR_told) 83 = .ok (.ireturn, 1) := o172 (byt_of hR_told_b0 (j := 83) rfl)
theorem dR_told_84 : decode (mcc mR_told) 84 = .ok (.aload_n 0, 1) := o42 (byt_of hR_told_b0 (j := 84) rfl)
theorem dR_told_85 : decode (mcc mR_told) 85 = .ok (.getfield 32, 3) := o180 (a := 0) (b := 32) (byt_of hR_told_b0 (j := 85) rfl) (byt_of hR_told_b0 (j := 86) rfl) (byt_of hR_told_b0 (j := 87) rfl) rfl
theorem dR_told_88 : decode (mcc mR_told) 88 = .ok (.iload_n 1, 1) := o27 (byt_of hR_told_b0 (j := 88) rfl)
theorem dR_told_89 : decode (mcc mR_told) 89 = .ok (.iaload, 1) := o46 (byt_of hR_told_b0 (j := 89) rfl)
theorem dR_told_90 : decode (mcc mR_told) 90 = .ok (.ireturn, 1) := o172 (byt_of hR_told_b0 (j := 90) rfl)
theorem dR_told_91 : decode (mcc mR_told) 91 = .ok (.aload_n 0, 1) := o42 (byt_of hR_told_b0 (j := 91) rfl)
theorem dR_told_92 : decode (mcc mR_told) 92 = .ok (.getfield 35, 3) := o180 (a := 0) (b := 35) (byt_of hR_told_b0 (j := 92) rfl) (byt_of hR_told_b0 (j := 93) rfl) (byt_of hR_told_b0 (j := 94) rfl) rfl
theorem dR_told_95 : decode (mcc mR_told) 95 = .ok (.iload_n 1, 1) := o27 (byt_of hR_told_b0 (j := 95) rfl)
def bR_told_b1 : List Nat := [46, 172, 42, 180, 0, 38, 27, 46, 172, 28, 16, 7, 16, 12, 184, 0, 151, 153, 0, 15, 42, 27, 28, 16, 7, 100, 182, 0, 233, 167, 0, 5, 16, 249, 172]
theorem hR_told_b1 : BL (mcc mR_told) 96 bR_told_b1 := by decide +kernel
theorem dR_told_96 : decode (mcc mR_told) 96 = .ok (.iaload, 1) := o46 (byt_of hR_told_b1 (j := 0) rfl)
theorem dR_told_97 : decode (mcc mR_told) 97 = .ok (.ireturn, 1) := o172 (byt_of hR_told_b1 (j := 1) rfl)
theorem dR_told_98 : decode (mcc mR_told) 98 = .ok (.aload_n 0, 1) := o42 (byt_of hR_told_b1 (j := 2) rfl)
theorem dR_told_99 : decode (mcc mR_told) 99 = .ok (.getfield 38, 3) := o180 (a := 0) (b := 38) (byt_of hR_told_b1 (j := 3) rfl) (byt_of hR_told_b1 (j := 4) rfl) (byt_of hR_told_b1 (j := 5) rfl) rfl
theorem dR_told_102 : decode (mcc mR_told) 102 = .ok (.iload_n 1, 1) := o27 (byt_of hR_told_b1 (j := 6) rfl)
theorem dR_told_103 : decode (mcc mR_told) 103 = .ok (.iaload, 1) := o46 (byt_of hR_told_b1 (j := 7) rfl)
theorem dR_told_104 : decode (mcc mR_told) 104 = .ok (.ireturn, 1) := o172 (byt_of hR_told_b1 (j := 8) rfl)
theorem dR_told_105 : decode (mcc mR_told) 105 = .ok (.iload_n 2, 1) := o28 (byt_of hR_told_b1 (j := 9) rfl)
theorem dR_told_106 : decode (mcc mR_told) 106 = .ok (.bipush 7, 2) := o16 (a := 7) (byt_of hR_told_b1 (j := 10) rfl) (byt_of hR_told_b1 (j := 11) rfl) rfl
theorem dR_told_108 : decode (mcc mR_told) 108 = .ok (.bipush 12, 2) := o16 (a := 12) (byt_of hR_told_b1 (j := 12) rfl) (byt_of hR_told_b1 (j := 13) rfl) rfl
theorem dR_told_110 : decode (mcc mR_told) 110 = .ok (.invokestatic 151, 3) := o184 (a := 0) (b := 151) (byt_of hR_told_b1 (j := 14) rfl) (byt_of hR_told_b1 (j := 15) rfl) (byt_of hR_told_b1 (j := 16) rfl) rfl
theorem dR_told_113 : decode (mcc mR_told) 113 = .ok (.ifCond .eq 15, 3) := o153 (a := 0) (b := 15) (byt_of hR_told_b1 (j := 17) rfl) (byt_of hR_told_b1 (j := 18) rfl) (byt_of hR_told_b1 (j := 19) rfl) rfl
theorem dR_told_116 : decode (mcc mR_told) 116 = .ok (.aload_n 0, 1) := o42 (byt_of hR_told_b1 (j := 20) rfl)
theorem dR_told_117 : decode (mcc mR_told) 117 = .ok (.iload_n 1, 1) := o27 (byt_of hR_told_b1 (j := 21) rfl)
theorem dR_told_118 : decode (mcc mR_told) 118 = .ok (.iload_n 2, 1) := o28 (byt_of hR_told_b1 (j := 22) rfl)
theorem dR_told_119 : decode (mcc mR_told) 119 = .ok (.bipush 7, 2) := o16 (a := 7) (byt_of hR_told_b1 (j := 23) rfl) (byt_of hR_told_b1 (j := 24) rfl) rfl
theorem dR_told_121 : decode (mcc mR_told) 121 = .ok (.isub, 1) := o100 (byt_of hR_told_b1 (j := 25) rfl)
theorem dR_told_122 : decode (mcc mR_told) 122 = .ok (.invokevirtual 233, 3) := o182 (a := 0) (b := 233) (byt_of hR_told_b1 (j := 26) rfl) (byt_of hR_told_b1 (j := 27) rfl) (byt_of hR_told_b1 (j := 28) rfl) rfl
theorem dR_told_125 : decode (mcc mR_told) 125 = .ok (.goto 5, 3) := o167 (a := 0) (b := 5) (byt_of hR_told_b1 (j := 29) rfl) (byt_of hR_told_b1 (j := 30) rfl) (byt_of hR_told_b1 (j := 31) rfl) rfl
theorem dR_told_128 : decode (mcc mR_told) 128 = .ok (.bipush (-7), 2) := o16 (a := 249) (byt_of hR_told_b1 (j := 32) rfl) (byt_of hR_told_b1 (j := 33) rfl) rfl
theorem dR_told_130 : decode (mcc mR_told) 130 = .ok (.ireturn, 1) := o172 (byt_of hR_told_b1 (j := 34) rfl)
def bR_promise_b0 : List Nat := [27, 3, 16, 7, 184, 0, 151, 153, 0, 38, 28, 4, 16, 99, 184, 0, 151, 153, 0, 28, 29, 3, 16, 99, 184, 0, 151, 153, 0, 18, 21, 4, 2, 42, 180, 0, 155, 4, 100, 184, 0, 151, 154, 0, 6, 16, 254, 172, 42, 180, 0, 155, 16, 8, 160, 0, 6, 16, 252, 172, 42, 180, 0, 44, 42, 180, 0, 155, 27, 79, 42, 180, 0, 47, 42, 180, 0, 155, 28, 79, 42, 180, 0, 50, 42, 180, 0, 155, 29, 79, 42, 180, 0, 53, 42, 180, 0, 155, 21, 4, 79, 42]
theorem hR_promise_b0 : BL (mcc mR_promise) 0 bR_promise_b0 := by decide +kernel
theorem dR_promise_0 : decode (mcc mR_promise) 0 = .ok (.iload_n 1, 1) := o27 (byt_of hR_promise_b0 (j := 0) rfl)
theorem dR_promise_1 : decode (mcc mR_promise) 1 = .ok (.iconst 0, 1) := o3 (byt_of hR_promise_b0 (j := 1) rfl)
theorem dR_promise_2 : decode (mcc mR_promise) 2 = .ok (.bipush 7, 2) := o16 (a := 7) (byt_of hR_promise_b0 (j := 2) rfl) (byt_of hR_promise_b0 (j := 3) rfl) rfl
theorem dR_promise_4 : decode (mcc mR_promise) 4 = .ok (.invokestatic 151, 3) := o184 (a := 0) (b := 151) (byt_of hR_promise_b0 (j := 4) rfl) (byt_of hR_promise_b0 (j := 5) rfl) (byt_of hR_promise_b0 (j := 6) rfl) rfl
theorem dR_promise_7 : decode (mcc mR_promise) 7 = .ok (.ifCond .eq 38, 3) := o153 (a := 0) (b := 38) (byt_of hR_promise_b0 (j := 7) rfl) (byt_of hR_promise_b0 (j := 8) rfl) (byt_of hR_promise_b0 (j := 9) rfl) rfl
theorem dR_promise_10 : decode (mcc mR_promise) 10 = .ok (.iload_n 2, 1) := o28 (byt_of hR_promise_b0 (j := 10) rfl)
theorem dR_promise_11 : decode (mcc mR_promise) 11 = .ok (.iconst 1, 1) := o4 (byt_of hR_promise_b0 (j := 11) rfl)
theorem dR_promise_12 : decode (mcc mR_promise) 12 = .ok (.bipush 99, 2) := o16 (a := 99) (byt_of hR_promise_b0 (j := 12) rfl) (byt_of hR_promise_b0 (j := 13) rfl) rfl
theorem dR_promise_14 : decode (mcc mR_promise) 14 = .ok (.invokestatic 151, 3) := o184 (a := 0) (b := 151) (byt_of hR_promise_b0 (j := 14) rfl) (byt_of hR_promise_b0 (j := 15) rfl) (byt_of hR_promise_b0 (j := 16) rfl) rfl
theorem dR_promise_17 : decode (mcc mR_promise) 17 = .ok (.ifCond .eq 28, 3) := o153 (a := 0) (b := 28) (byt_of hR_promise_b0 (j := 17) rfl) (byt_of hR_promise_b0 (j := 18) rfl) (byt_of hR_promise_b0 (j := 19) rfl) rfl
theorem dR_promise_20 : decode (mcc mR_promise) 20 = .ok (.iload_n 3, 1) := o29 (byt_of hR_promise_b0 (j := 20) rfl)
theorem dR_promise_21 : decode (mcc mR_promise) 21 = .ok (.iconst 0, 1) := o3 (byt_of hR_promise_b0 (j := 21) rfl)
theorem dR_promise_22 : decode (mcc mR_promise) 22 = .ok (.bipush 99, 2) := o16 (a := 99) (byt_of hR_promise_b0 (j := 22) rfl) (byt_of hR_promise_b0 (j := 23) rfl) rfl
theorem dR_promise_24 : decode (mcc mR_promise) 24 = .ok (.invokestatic 151, 3) := o184 (a := 0) (b := 151) (byt_of hR_promise_b0 (j := 24) rfl) (byt_of hR_promise_b0 (j := 25) rfl) (byt_of hR_promise_b0 (j := 26) rfl) rfl
theorem dR_promise_27 : decode (mcc mR_promise) 27 = .ok (.ifCond .eq 18, 3) := o153 (a := 0) (b := 18) (byt_of hR_promise_b0 (j := 27) rfl) (byt_of hR_promise_b0 (j := 28) rfl) (byt_of hR_promise_b0 (j := 29) rfl) rfl
theorem dR_promise_30 : decode (mcc mR_promise) 30 = .ok (.iload 4, 2) := o21 (a := 4) (byt_of hR_promise_b0 (j := 30) rfl) (byt_of hR_promise_b0 (j := 31) rfl)
theorem dR_promise_32 : decode (mcc mR_promise) 32 = .ok (.iconst (-1), 1) := o2 (byt_of hR_promise_b0 (j := 32) rfl)
theorem dR_promise_33 : decode (mcc mR_promise) 33 = .ok (.aload_n 0, 1) := o42 (byt_of hR_promise_b0 (j := 33) rfl)
theorem dR_promise_34 : decode (mcc mR_promise) 34 = .ok (.getfield 155, 3) := o180 (a := 0) (b := 155) (byt_of hR_promise_b0 (j := 34) rfl) (byt_of hR_promise_b0 (j := 35) rfl) (byt_of hR_promise_b0 (j := 36) rfl) rfl
theorem dR_promise_37 : decode (mcc mR_promise) 37 = .ok (.iconst 1, 1) := o4 (byt_of hR_promise_b0 (j := 37) rfl)
theorem dR_promise_38 : decode (mcc mR_promise) 38 = .ok (.isub, 1) := o100 (byt_of hR_promise_b0 (j := 38) rfl)
theorem dR_promise_39 : decode (mcc mR_promise) 39 = .ok (.invokestatic 151, 3) := o184 (a := 0) (b := 151) (byt_of hR_promise_b0 (j := 39) rfl) (byt_of hR_promise_b0 (j := 40) rfl) (byt_of hR_promise_b0 (j := 41) rfl) rfl
theorem dR_promise_42 : decode (mcc mR_promise) 42 = .ok (.ifCond .ne 6, 3) := o154 (a := 0) (b := 6) (byt_of hR_promise_b0 (j := 42) rfl) (byt_of hR_promise_b0 (j := 43) rfl) (byt_of hR_promise_b0 (j := 44) rfl) rfl
theorem dR_promise_45 : decode (mcc mR_promise) 45 = .ok (.bipush (-2), 2) := o16 (a := 254) (byt_of hR_promise_b0 (j := 45) rfl) (byt_of hR_promise_b0 (j := 46) rfl) rfl
theorem dR_promise_47 : decode (mcc mR_promise) 47 = .ok (.ireturn, 1) := o172 (byt_of hR_promise_b0 (j := 47) rfl)
theorem dR_promise_48 : decode (mcc mR_promise) 48 = .ok (.aload_n 0, 1) := o42 (byt_of hR_promise_b0 (j := 48) rfl)
theorem dR_promise_49 : decode (mcc mR_promise) 49 = .ok (.getfield 155, 3) := o180 (a := 0) (b := 155) (byt_of hR_promise_b0 (j := 49) rfl) (byt_of hR_promise_b0 (j := 50) rfl) (byt_of hR_promise_b0 (j := 51) rfl) rfl
theorem dR_promise_52 : decode (mcc mR_promise) 52 = .ok (.bipush 8, 2) := o16 (a := 8) (byt_of hR_promise_b0 (j := 52) rfl) (byt_of hR_promise_b0 (j := 53) rfl) rfl
theorem dR_promise_54 : decode (mcc mR_promise) 54 = .ok (.if_icmp .ne 6, 3) := o160 (a := 0) (b := 6) (byt_of hR_promise_b0 (j := 54) rfl) (byt_of hR_promise_b0 (j := 55) rfl) (byt_of hR_promise_b0 (j := 56) rfl) rfl
theorem dR_promise_57 : decode (mcc mR_promise) 57 = .ok (.bipush (-4), 2) := o16 (a := 252) (byt_of hR_promise_b0 (j := 57) rfl) (byt_of hR_promise_b0 (j := 58) rfl) rfl
theorem dR_promise_59 : decode (mcc mR_promise) 59 = .ok (.ireturn, 1) := o172 (byt_of hR_promise_b0 (j := 59) rfl)
theorem dR_promise_60 : decode (mcc mR_promise) 60 = .ok (.aload_n 0, 1) := o42 (byt_of hR_promise_b0 (j := 60) rfl)
theorem dR_promise_61 : decode (mcc mR_promise) 61 = .ok (.getfield 44, 3) := o180 (a := 0) (b := 44) (byt_of hR_promise_b0 (j := 61) rfl) (byt_of hR_promise_b0 (j := 62) rfl) (byt_of hR_promise_b0 (j := 63) rfl) rfl
theorem dR_promise_64 : decode (mcc mR_promise) 64 = .ok (.aload_n 0, 1) := o42 (byt_of hR_promise_b0 (j := 64) rfl)
theorem dR_promise_65 : decode (mcc mR_promise) 65 = .ok (.getfield 155, 3) := o180 (a := 0) (b := 155) (byt_of hR_promise_b0 (j := 65) rfl) (byt_of hR_promise_b0 (j := 66) rfl) (byt_of hR_promise_b0 (j := 67) rfl) rfl
theorem dR_promise_68 : decode (mcc mR_promise) 68 = .ok (.iload_n 1, 1) := o27 (byt_of hR_promise_b0 (j := 68) rfl)
theorem dR_promise_69 : decode (mcc mR_promise) 69 = .ok (.iastore, 1) := o79 (byt_of hR_promise_b0 (j := 69) rfl)
theorem dR_promise_70 : decode (mcc mR_promise) 70 = .ok (.aload_n 0, 1) := o42 (byt_of hR_promise_b0 (j := 70) rfl)
theorem dR_promise_71 : decode (mcc mR_promise) 71 = .ok (.getfield 47, 3) := o180 (a := 0) (b := 47) (byt_of hR_promise_b0 (j := 71) rfl) (byt_of hR_promise_b0 (j := 72) rfl) (byt_of hR_promise_b0 (j := 73) rfl) rfl
theorem dR_promise_74 : decode (mcc mR_promise) 74 = .ok (.aload_n 0, 1) := o42 (byt_of hR_promise_b0 (j := 74) rfl)
theorem dR_promise_75 : decode (mcc mR_promise) 75 = .ok (.getfield 155, 3) := o180 (a := 0) (b := 155) (byt_of hR_promise_b0 (j := 75) rfl) (byt_of hR_promise_b0 (j := 76) rfl) (byt_of hR_promise_b0 (j := 77) rfl) rfl
theorem dR_promise_78 : decode (mcc mR_promise) 78 = .ok (.iload_n 2, 1) := o28 (byt_of hR_promise_b0 (j := 78) rfl)
theorem dR_promise_79 : decode (mcc mR_promise) 79 = .ok (.iastore, 1) := o79 (byt_of hR_promise_b0 (j := 79) rfl)
theorem dR_promise_80 : decode (mcc mR_promise) 80 = .ok (.aload_n 0, 1) := o42 (byt_of hR_promise_b0 (j := 80) rfl)
theorem dR_promise_81 : decode (mcc mR_promise) 81 = .ok (.getfield 50, 3) := o180 (a := 0) (b := 50) (byt_of hR_promise_b0 (j := 81) rfl) (byt_of hR_promise_b0 (j := 82) rfl) (byt_of hR_promise_b0 (j := 83) rfl) rfl
theorem dR_promise_84 : decode (mcc mR_promise) 84 = .ok (.aload_n 0, 1) := o42 (byt_of hR_promise_b0 (j := 84) rfl)
theorem dR_promise_85 : decode (mcc mR_promise) 85 = .ok (.getfield 155, 3) := o180 (a := 0) (b := 155) (byt_of hR_promise_b0 (j := 85) rfl) (byt_of hR_promise_b0 (j := 86) rfl) (byt_of hR_promise_b0 (j := 87) rfl) rfl
theorem dR_promise_88 : decode (mcc mR_promise) 88 = .ok (.iload_n 3, 1) := o29 (byt_of hR_promise_b0 (j := 88) rfl)
theorem dR_promise_89 : decode (mcc mR_promise) 89 = .ok (.iastore, 1) := o79 (byt_of hR_promise_b0 (j := 89) rfl)
theorem dR_promise_90 : decode (mcc mR_promise) 90 = .ok (.aload_n 0, 1) := o42 (byt_of hR_promise_b0 (j := 90) rfl)
theorem dR_promise_91 : decode (mcc mR_promise) 91 = .ok (.getfield 53, 3) := o180 (a := 0) (b := 53) (byt_of hR_promise_b0 (j := 91) rfl) (byt_of hR_promise_b0 (j := 92) rfl) (byt_of hR_promise_b0 (j := 93) rfl) rfl
theorem dR_promise_94 : decode (mcc mR_promise) 94 = .ok (.aload_n 0, 1) := o42 (byt_of hR_promise_b0 (j := 94) rfl)
theorem dR_promise_95 : decode (mcc mR_promise) 95 = .ok (.getfield 155, 3) := o180 (a := 0) (b := 155) (byt_of hR_promise_b0 (j := 95) rfl) (byt_of hR_promise_b0 (j := 96) rfl) (byt_of hR_promise_b0 (j := 97) rfl) rfl
def bR_promise_b1 : List Nat := [0, 155, 21, 4, 79, 42, 89, 180, 0, 155, 4, 96, 181, 0, 155, 42, 180, 0, 155, 4, 100, 172]
theorem hR_promise_b1 : BL (mcc mR_promise) 96 bR_promise_b1 := by decide +kernel
theorem dR_promise_98 : decode (mcc mR_promise) 98 = .ok (.iload 4, 2) := o21 (a := 4) (byt_of hR_promise_b1 (j := 2) rfl) (byt_of hR_promise_b1 (j := 3) rfl)
theorem dR_promise_100 : decode (mcc mR_promise) 100 = .ok (.iastore, 1) := o79 (byt_of hR_promise_b1 (j := 4) rfl)
theorem dR_promise_101 : decode (mcc mR_promise) 101 = .ok (.aload_n 0, 1) := o42 (byt_of hR_promise_b1 (j := 5) rfl)
theorem dR_promise_102 : decode (mcc mR_promise) 102 = .ok (.dup, 1) := o89 (byt_of hR_promise_b1 (j := 6) rfl)
theorem dR_promise_103 : decode (mcc mR_promise) 103 = .ok (.getfield 155, 3) := o180 (a := 0) (b := 155) (byt_of hR_promise_b1 (j := 7) rfl) (byt_of hR_promise_b1 (j := 8) rfl) (byt_of hR_promise_b1 (j := 9) rfl) rfl
theorem dR_promise_106 : decode (mcc mR_promise) 106 = .ok (.iconst 1, 1) := o4 (byt_of hR_promise_b1 (j := 10) rfl)
theorem dR_promise_107 : decode (mcc mR_promise) 107 = .ok (.iadd, 1) := o96 (byt_of hR_promise_b1 (j := 11) rfl)
theorem dR_promise_108 : decode (mcc mR_promise) 108 = .ok (.putfield 155, 3) := o181 (a := 0) (b := 155) (byt_of hR_promise_b1 (j := 12) rfl) (byt_of hR_promise_b1 (j := 13) rfl) (byt_of hR_promise_b1 (j := 14) rfl) rfl
theorem dR_promise_111 : decode (mcc mR_promise) 111 = .ok (.aload_n 0, 1) := o42 (byt_of hR_promise_b1 (j := 15) rfl)
theorem dR_promise_112 : decode (mcc mR_promise) 112 = .ok (.getfield 155, 3) := o180 (a := 0) (b := 155) (byt_of hR_promise_b1 (j := 16) rfl) (byt_of hR_promise_b1 (j := 17) rfl) (byt_of hR_promise_b1 (j := 18) rfl) rfl
theorem dR_promise_115 : decode (mcc mR_promise) 115 = .ok (.iconst 1, 1) := o4 (byt_of hR_promise_b1 (j := 19) rfl)
theorem dR_promise_116 : decode (mcc mR_promise) 116 = .ok (.isub, 1) := o100 (byt_of hR_promise_b1 (j := 20) rfl)
theorem dR_promise_117 : decode (mcc mR_promise) 117 = .ok (.ireturn, 1) := o172 (byt_of hR_promise_b1 (j := 21) rfl)
def bR_promised_b0 : List Nat := [42, 27, 182, 0, 236, 154, 0, 6, 16, 251, 172, 28, 154, 0, 12, 42, 180, 0, 44, 27, 46, 167, 0, 47, 28, 4, 160, 0, 12, 42, 180, 0, 47, 27, 46, 167, 0, 33, 28, 5, 160, 0, 12, 42, 180, 0, 50, 27, 46, 167, 0, 19, 28, 6, 160, 0, 12, 42, 180, 0, 53, 27, 46, 167, 0, 5, 16, 249, 172]
theorem hR_promised_b0 : BL (mcc mR_promised) 0 bR_promised_b0 := by decide +kernel
theorem dR_promised_0 : decode (mcc mR_promised) 0 = .ok (.aload_n 0, 1) := o42 (byt_of hR_promised_b0 (j := 0) rfl)
theorem dR_promised_1 : decode (mcc mR_promised) 1 = .ok (.iload_n 1, 1) := o27 (byt_of hR_promised_b0 (j := 1) rfl)
theorem dR_promised_2 : decode (mcc mR_promised) 2 = .ok (.invokevirtual 236, 3) := o182 (a := 0) (b := 236) (byt_of hR_promised_b0 (j := 2) rfl) (byt_of hR_promised_b0 (j := 3) rfl) (byt_of hR_promised_b0 (j := 4) rfl) rfl
theorem dR_promised_5 : decode (mcc mR_promised) 5 = .ok (.ifCond .ne 6, 3) := o154 (a := 0) (b := 6) (byt_of hR_promised_b0 (j := 5) rfl) (byt_of hR_promised_b0 (j := 6) rfl) (byt_of hR_promised_b0 (j := 7) rfl) rfl
theorem dR_promised_8 : decode (mcc mR_promised) 8 = .ok (.bipush (-5), 2) := o16 (a := 251) (byt_of hR_promised_b0 (j := 8) rfl) (byt_of hR_promised_b0 (j := 9) rfl) rfl
theorem dR_promised_10 : decode (mcc mR_promised) 10 = .ok (.ireturn, 1) := o172 (byt_of hR_promised_b0 (j := 10) rfl)
theorem dR_promised_11 : decode (mcc mR_promised) 11 = .ok (.iload_n 2, 1) := o28 (byt_of hR_promised_b0 (j := 11) rfl)
theorem dR_promised_12 : decode (mcc mR_promised) 12 = .ok (.ifCond .ne 12, 3) := o154 (a := 0) (b := 12) (byt_of hR_promised_b0 (j := 12) rfl) (byt_of hR_promised_b0 (j := 13) rfl) (byt_of hR_promised_b0 (j := 14) rfl) rfl
theorem dR_promised_15 : decode (mcc mR_promised) 15 = .ok (.aload_n 0, 1) := o42 (byt_of hR_promised_b0 (j := 15) rfl)
theorem dR_promised_16 : decode (mcc mR_promised) 16 = .ok (.getfield 44, 3) := o180 (a := 0) (b := 44) (byt_of hR_promised_b0 (j := 16) rfl) (byt_of hR_promised_b0 (j := 17) rfl) (byt_of hR_promised_b0 (j := 18) rfl) rfl
theorem dR_promised_19 : decode (mcc mR_promised) 19 = .ok (.iload_n 1, 1) := o27 (byt_of hR_promised_b0 (j := 19) rfl)
theorem dR_promised_20 : decode (mcc mR_promised) 20 = .ok (.iaload, 1) := o46 (byt_of hR_promised_b0 (j := 20) rfl)
theorem dR_promised_21 : decode (mcc mR_promised) 21 = .ok (.goto 47, 3) := o167 (a := 0) (b := 47) (byt_of hR_promised_b0 (j := 21) rfl) (byt_of hR_promised_b0 (j := 22) rfl) (byt_of hR_promised_b0 (j := 23) rfl) rfl
theorem dR_promised_24 : decode (mcc mR_promised) 24 = .ok (.iload_n 2, 1) := o28 (byt_of hR_promised_b0 (j := 24) rfl)
theorem dR_promised_25 : decode (mcc mR_promised) 25 = .ok (.iconst 1, 1) := o4 (byt_of hR_promised_b0 (j := 25) rfl)
theorem dR_promised_26 : decode (mcc mR_promised) 26 = .ok (.if_icmp .ne 12, 3) := o160 (a := 0) (b := 12) (byt_of hR_promised_b0 (j := 26) rfl) (byt_of hR_promised_b0 (j := 27) rfl) (byt_of hR_promised_b0 (j := 28) rfl) rfl
theorem dR_promised_29 : decode (mcc mR_promised) 29 = .ok (.aload_n 0, 1) := o42 (byt_of hR_promised_b0 (j := 29) rfl)
theorem dR_promised_30 : decode (mcc mR_promised) 30 = .ok (.getfield 47, 3) := o180 (a := 0) (b := 47) (byt_of hR_promised_b0 (j := 30) rfl) (byt_of hR_promised_b0 (j := 31) rfl) (byt_of hR_promised_b0 (j := 32) rfl) rfl
theorem dR_promised_33 : decode (mcc mR_promised) 33 = .ok (.iload_n 1, 1) := o27 (byt_of hR_promised_b0 (j := 33) rfl)
theorem dR_promised_34 : decode (mcc mR_promised) 34 = .ok (.iaload, 1) := o46 (byt_of hR_promised_b0 (j := 34) rfl)
theorem dR_promised_35 : decode (mcc mR_promised) 35 = .ok (.goto 33, 3) := o167 (a := 0) (b := 33) (byt_of hR_promised_b0 (j := 35) rfl) (byt_of hR_promised_b0 (j := 36) rfl) (byt_of hR_promised_b0 (j := 37) rfl) rfl
theorem dR_promised_38 : decode (mcc mR_promised) 38 = .ok (.iload_n 2, 1) := o28 (byt_of hR_promised_b0 (j := 38) rfl)
theorem dR_promised_39 : decode (mcc mR_promised) 39 = .ok (.iconst 2, 1) := o5 (byt_of hR_promised_b0 (j := 39) rfl)
theorem dR_promised_40 : decode (mcc mR_promised) 40 = .ok (.if_icmp .ne 12, 3) := o160 (a := 0) (b := 12) (byt_of hR_promised_b0 (j := 40) rfl) (byt_of hR_promised_b0 (j := 41) rfl) (byt_of hR_promised_b0 (j := 42) rfl) rfl
theorem dR_promised_43 : decode (mcc mR_promised) 43 = .ok (.aload_n 0, 1) := o42 (byt_of hR_promised_b0 (j := 43) rfl)
theorem dR_promised_44 : decode (mcc mR_promised) 44 = .ok (.getfield 50, 3) := o180 (a := 0) (b := 50) (byt_of hR_promised_b0 (j := 44) rfl) (byt_of hR_promised_b0 (j := 45) rfl) (byt_of hR_promised_b0 (j := 46) rfl) rfl
theorem dR_promised_47 : decode (mcc mR_promised) 47 = .ok (.iload_n 1, 1) := o27 (byt_of hR_promised_b0 (j := 47) rfl)
theorem dR_promised_48 : decode (mcc mR_promised) 48 = .ok (.iaload, 1) := o46 (byt_of hR_promised_b0 (j := 48) rfl)
theorem dR_promised_49 : decode (mcc mR_promised) 49 = .ok (.goto 19, 3) := o167 (a := 0) (b := 19) (byt_of hR_promised_b0 (j := 49) rfl) (byt_of hR_promised_b0 (j := 50) rfl) (byt_of hR_promised_b0 (j := 51) rfl) rfl
theorem dR_promised_52 : decode (mcc mR_promised) 52 = .ok (.iload_n 2, 1) := o28 (byt_of hR_promised_b0 (j := 52) rfl)
theorem dR_promised_53 : decode (mcc mR_promised) 53 = .ok (.iconst 3, 1) := o6 (byt_of hR_promised_b0 (j := 53) rfl)
theorem dR_promised_54 : decode (mcc mR_promised) 54 = .ok (.if_icmp .ne 12, 3) := o160 (a := 0) (b := 12) (byt_of hR_promised_b0 (j := 54) rfl) (byt_of hR_promised_b0 (j := 55) rfl) (byt_of hR_promised_b0 (j := 56) rfl) rfl
theorem dR_promised_57 : decode (mcc mR_promised) 57 = .ok (.aload_n 0, 1) := o42 (byt_of hR_promised_b0 (j := 57) rfl)
theorem dR_promised_58 : decode (mcc mR_promised) 58 = .ok (.getfield 53, 3) := o180 (a := 0) (b := 53) (byt_of hR_promised_b0 (j := 58) rfl) (byt_of hR_promised_b0 (j := 59) rfl) (byt_of hR_promised_b0 (j := 60) rfl) rfl
theorem dR_promised_61 : decode (mcc mR_promised) 61 = .ok (.iload_n 1, 1) := o27 (byt_of hR_promised_b0 (j := 61) rfl)
theorem dR_promised_62 : decode (mcc mR_promised) 62 = .ok (.iaload, 1) := o46 (byt_of hR_promised_b0 (j := 62) rfl)
theorem dR_promised_63 : decode (mcc mR_promised) 63 = .ok (.goto 5, 3) := o167 (a := 0) (b := 5) (byt_of hR_promised_b0 (j := 63) rfl) (byt_of hR_promised_b0 (j := 64) rfl) (byt_of hR_promised_b0 (j := 65) rfl) rfl
theorem dR_promised_66 : decode (mcc mR_promised) 66 = .ok (.bipush (-7), 2) := o16 (a := 249) (byt_of hR_promised_b0 (j := 66) rfl) (byt_of hR_promised_b0 (j := 67) rfl) rfl
theorem dR_promised_68 : decode (mcc mR_promised) 68 = .ok (.ireturn, 1) := o172 (byt_of hR_promised_b0 (j := 68) rfl)
def bR_says_b0 : List Nat := [42, 180, 0, 56, 27, 28, 79, 42, 180, 0, 59, 27, 29, 16, 100, 108, 79, 42, 180, 0, 62, 27, 29, 16, 10, 108, 16, 10, 112, 79, 42, 180, 0, 65, 27, 29, 16, 10, 112, 79, 177]
theorem hR_says_b0 : BL (mcc mR_says) 0 bR_says_b0 := by decide +kernel
theorem dR_says_0 : decode (mcc mR_says) 0 = .ok (.aload_n 0, 1) := o42 (byt_of hR_says_b0 (j := 0) rfl)
theorem dR_says_1 : decode (mcc mR_says) 1 = .ok (.getfield 56, 3) := o180 (a := 0) (b := 56) (byt_of hR_says_b0 (j := 1) rfl) (byt_of hR_says_b0 (j := 2) rfl) (byt_of hR_says_b0 (j := 3) rfl) rfl
theorem dR_says_4 : decode (mcc mR_says) 4 = .ok (.iload_n 1, 1) := o27 (byt_of hR_says_b0 (j := 4) rfl)
theorem dR_says_5 : decode (mcc mR_says) 5 = .ok (.iload_n 2, 1) := o28 (byt_of hR_says_b0 (j := 5) rfl)
theorem dR_says_6 : decode (mcc mR_says) 6 = .ok (.iastore, 1) := o79 (byt_of hR_says_b0 (j := 6) rfl)
theorem dR_says_7 : decode (mcc mR_says) 7 = .ok (.aload_n 0, 1) := o42 (byt_of hR_says_b0 (j := 7) rfl)
theorem dR_says_8 : decode (mcc mR_says) 8 = .ok (.getfield 59, 3) := o180 (a := 0) (b := 59) (byt_of hR_says_b0 (j := 8) rfl) (byt_of hR_says_b0 (j := 9) rfl) (byt_of hR_says_b0 (j := 10) rfl) rfl
theorem dR_says_11 : decode (mcc mR_says) 11 = .ok (.iload_n 1, 1) := o27 (byt_of hR_says_b0 (j := 11) rfl)
theorem dR_says_12 : decode (mcc mR_says) 12 = .ok (.iload_n 3, 1) := o29 (byt_of hR_says_b0 (j := 12) rfl)
theorem dR_says_13 : decode (mcc mR_says) 13 = .ok (.bipush 100, 2) := o16 (a := 100) (byt_of hR_says_b0 (j := 13) rfl) (byt_of hR_says_b0 (j := 14) rfl) rfl
theorem dR_says_15 : decode (mcc mR_says) 15 = .ok (.idiv, 1) := o108 (byt_of hR_says_b0 (j := 15) rfl)
theorem dR_says_16 : decode (mcc mR_says) 16 = .ok (.iastore, 1) := o79 (byt_of hR_says_b0 (j := 16) rfl)
theorem dR_says_17 : decode (mcc mR_says) 17 = .ok (.aload_n 0, 1) := o42 (byt_of hR_says_b0 (j := 17) rfl)
theorem dR_says_18 : decode (mcc mR_says) 18 = .ok (.getfield 62, 3) := o180 (a := 0) (b := 62) (byt_of hR_says_b0 (j := 18) rfl) (byt_of hR_says_b0 (j := 19) rfl) (byt_of hR_says_b0 (j := 20) rfl) rfl
theorem dR_says_21 : decode (mcc mR_says) 21 = .ok (.iload_n 1, 1) := o27 (byt_of hR_says_b0 (j := 21) rfl)
theorem dR_says_22 : decode (mcc mR_says) 22 = .ok (.iload_n 3, 1) := o29 (byt_of hR_says_b0 (j := 22) rfl)
theorem dR_says_23 : decode (mcc mR_says) 23 = .ok (.bipush 10, 2) := o16 (a := 10) (byt_of hR_says_b0 (j := 23) rfl) (byt_of hR_says_b0 (j := 24) rfl) rfl
theorem dR_says_25 : decode (mcc mR_says) 25 = .ok (.idiv, 1) := o108 (byt_of hR_says_b0 (j := 25) rfl)
theorem dR_says_26 : decode (mcc mR_says) 26 = .ok (.bipush 10, 2) := o16 (a := 10) (byt_of hR_says_b0 (j := 26) rfl) (byt_of hR_says_b0 (j := 27) rfl) rfl
theorem dR_says_28 : decode (mcc mR_says) 28 = .ok (.irem, 1) := o112 (byt_of hR_says_b0 (j := 28) rfl)
theorem dR_says_29 : decode (mcc mR_says) 29 = .ok (.iastore, 1) := o79 (byt_of hR_says_b0 (j := 29) rfl)
theorem dR_says_30 : decode (mcc mR_says) 30 = .ok (.aload_n 0, 1) := o42 (byt_of hR_says_b0 (j := 30) rfl)
theorem dR_says_31 : decode (mcc mR_says) 31 = .ok (.getfield 65, 3) := o180 (a := 0) (b := 65) (byt_of hR_says_b0 (j := 31) rfl) (byt_of hR_says_b0 (j := 32) rfl) (byt_of hR_says_b0 (j := 33) rfl) rfl
theorem dR_says_34 : decode (mcc mR_says) 34 = .ok (.iload_n 1, 1) := o27 (byt_of hR_says_b0 (j := 34) rfl)
theorem dR_says_35 : decode (mcc mR_says) 35 = .ok (.iload_n 3, 1) := o29 (byt_of hR_says_b0 (j := 35) rfl)
theorem dR_says_36 : decode (mcc mR_says) 36 = .ok (.bipush 10, 2) := o16 (a := 10) (byt_of hR_says_b0 (j := 36) rfl) (byt_of hR_says_b0 (j := 37) rfl) rfl
theorem dR_says_38 : decode (mcc mR_says) 38 = .ok (.irem, 1) := o112 (byt_of hR_says_b0 (j := 38) rfl)
theorem dR_says_39 : decode (mcc mR_says) 39 = .ok (.iastore, 1) := o79 (byt_of hR_says_b0 (j := 39) rfl)
theorem dR_says_40 : decode (mcc mR_says) 40 = .ok (.return_, 1) := o177 (byt_of hR_says_b0 (j := 40) rfl)
def bR_say_b0 : List Nat := [42, 27, 182, 0, 236, 153, 0, 37, 28, 155, 0, 33, 28, 16, 100, 108, 8, 163, 0, 25, 28, 16, 10, 108, 16, 10, 112, 8, 163, 0, 14, 28, 16, 10, 112, 158, 0, 7, 4, 167, 0, 4, 3, 62, 29, 154, 0, 6, 16, 254, 172, 42, 180, 0, 158, 16, 10, 160, 0, 6, 16, 252, 172, 42, 42, 180, 0, 158, 27, 28, 182, 0, 239, 42, 89, 180, 0, 158, 4, 96, 181, 0, 158, 42, 180, 0, 158, 4, 100, 172]
theorem hR_say_b0 : BL (mcc mR_say) 0 bR_say_b0 := by decide +kernel
theorem dR_say_0 : decode (mcc mR_say) 0 = .ok (.aload_n 0, 1) := o42 (byt_of hR_say_b0 (j := 0) rfl)
theorem dR_say_1 : decode (mcc mR_say) 1 = .ok (.iload_n 1, 1) := o27 (byt_of hR_say_b0 (j := 1) rfl)
theorem dR_say_2 : decode (mcc mR_say) 2 = .ok (.invokevirtual 236, 3) := o182 (a := 0) (b := 236) (byt_of hR_say_b0 (j := 2) rfl) (byt_of hR_say_b0 (j := 3) rfl) (byt_of hR_say_b0 (j := 4) rfl) rfl
theorem dR_say_5 : decode (mcc mR_say) 5 = .ok (.ifCond .eq 37, 3) := o153 (a := 0) (b := 37) (byt_of hR_say_b0 (j := 5) rfl) (byt_of hR_say_b0 (j := 6) rfl) (byt_of hR_say_b0 (j := 7) rfl) rfl
theorem dR_say_8 : decode (mcc mR_say) 8 = .ok (.iload_n 2, 1) := o28 (byt_of hR_say_b0 (j := 8) rfl)
theorem dR_say_9 : decode (mcc mR_say) 9 = .ok (.ifCond .lt 33, 3) := o155 (a := 0) (b := 33) (byt_of hR_say_b0 (j := 9) rfl) (byt_of hR_say_b0 (j := 10) rfl) (byt_of hR_say_b0 (j := 11) rfl) rfl
theorem dR_say_12 : decode (mcc mR_say) 12 = .ok (.iload_n 2, 1) := o28 (byt_of hR_say_b0 (j := 12) rfl)
theorem dR_say_13 : decode (mcc mR_say) 13 = .ok (.bipush 100, 2) := o16 (a := 100) (byt_of hR_say_b0 (j := 13) rfl) (byt_of hR_say_b0 (j := 14) rfl) rfl
theorem dR_say_15 : decode (mcc mR_say) 15 = .ok (.idiv, 1) := o108 (byt_of hR_say_b0 (j := 15) rfl)
theorem dR_say_16 : decode (mcc mR_say) 16 = .ok (.iconst 5, 1) := o8 (byt_of hR_say_b0 (j := 16) rfl)
theorem dR_say_17 : decode (mcc mR_say) 17 = .ok (.if_icmp .gt 25, 3) := o163 (a := 0) (b := 25) (byt_of hR_say_b0 (j := 17) rfl) (byt_of hR_say_b0 (j := 18) rfl) (byt_of hR_say_b0 (j := 19) rfl) rfl
theorem dR_say_20 : decode (mcc mR_say) 20 = .ok (.iload_n 2, 1) := o28 (byt_of hR_say_b0 (j := 20) rfl)
theorem dR_say_21 : decode (mcc mR_say) 21 = .ok (.bipush 10, 2) := o16 (a := 10) (byt_of hR_say_b0 (j := 21) rfl) (byt_of hR_say_b0 (j := 22) rfl) rfl
theorem dR_say_23 : decode (mcc mR_say) 23 = .ok (.idiv, 1) := o108 (byt_of hR_say_b0 (j := 23) rfl)
theorem dR_say_24 : decode (mcc mR_say) 24 = .ok (.bipush 10, 2) := o16 (a := 10) (byt_of hR_say_b0 (j := 24) rfl) (byt_of hR_say_b0 (j := 25) rfl) rfl
theorem dR_say_26 : decode (mcc mR_say) 26 = .ok (.irem, 1) := o112 (byt_of hR_say_b0 (j := 26) rfl)
theorem dR_say_27 : decode (mcc mR_say) 27 = .ok (.iconst 5, 1) := o8 (byt_of hR_say_b0 (j := 27) rfl)
theorem dR_say_28 : decode (mcc mR_say) 28 = .ok (.if_icmp .gt 14, 3) := o163 (a := 0) (b := 14) (byt_of hR_say_b0 (j := 28) rfl) (byt_of hR_say_b0 (j := 29) rfl) (byt_of hR_say_b0 (j := 30) rfl) rfl
theorem dR_say_31 : decode (mcc mR_say) 31 = .ok (.iload_n 2, 1) := o28 (byt_of hR_say_b0 (j := 31) rfl)
theorem dR_say_32 : decode (mcc mR_say) 32 = .ok (.bipush 10, 2) := o16 (a := 10) (byt_of hR_say_b0 (j := 32) rfl) (byt_of hR_say_b0 (j := 33) rfl) rfl
theorem dR_say_34 : decode (mcc mR_say) 34 = .ok (.irem, 1) := o112 (byt_of hR_say_b0 (j := 34) rfl)
theorem dR_say_35 : decode (mcc mR_say) 35 = .ok (.ifCond .le 7, 3) := o158 (a := 0) (b := 7) (byt_of hR_say_b0 (j := 35) rfl) (byt_of hR_say_b0 (j := 36) rfl) (byt_of hR_say_b0 (j := 37) rfl) rfl
theorem dR_say_38 : decode (mcc mR_say) 38 = .ok (.iconst 1, 1) := o4 (byt_of hR_say_b0 (j := 38) rfl)
theorem dR_say_39 : decode (mcc mR_say) 39 = .ok (.goto 4, 3) := o167 (a := 0) (b := 4) (byt_of hR_say_b0 (j := 39) rfl) (byt_of hR_say_b0 (j := 40) rfl) (byt_of hR_say_b0 (j := 41) rfl) rfl
theorem dR_say_42 : decode (mcc mR_say) 42 = .ok (.iconst 0, 1) := o3 (byt_of hR_say_b0 (j := 42) rfl)
theorem dR_say_43 : decode (mcc mR_say) 43 = .ok (.istore_n 3, 1) := o62 (byt_of hR_say_b0 (j := 43) rfl)
theorem dR_say_44 : decode (mcc mR_say) 44 = .ok (.iload_n 3, 1) := o29 (byt_of hR_say_b0 (j := 44) rfl)
theorem dR_say_45 : decode (mcc mR_say) 45 = .ok (.ifCond .ne 6, 3) := o154 (a := 0) (b := 6) (byt_of hR_say_b0 (j := 45) rfl) (byt_of hR_say_b0 (j := 46) rfl) (byt_of hR_say_b0 (j := 47) rfl) rfl
theorem dR_say_48 : decode (mcc mR_say) 48 = .ok (.bipush (-2), 2) := o16 (a := 254) (byt_of hR_say_b0 (j := 48) rfl) (byt_of hR_say_b0 (j := 49) rfl) rfl
theorem dR_say_50 : decode (mcc mR_say) 50 = .ok (.ireturn, 1) := o172 (byt_of hR_say_b0 (j := 50) rfl)
theorem dR_say_51 : decode (mcc mR_say) 51 = .ok (.aload_n 0, 1) := o42 (byt_of hR_say_b0 (j := 51) rfl)
theorem dR_say_52 : decode (mcc mR_say) 52 = .ok (.getfield 158, 3) := o180 (a := 0) (b := 158) (byt_of hR_say_b0 (j := 52) rfl) (byt_of hR_say_b0 (j := 53) rfl) (byt_of hR_say_b0 (j := 54) rfl) rfl
theorem dR_say_55 : decode (mcc mR_say) 55 = .ok (.bipush 10, 2) := o16 (a := 10) (byt_of hR_say_b0 (j := 55) rfl) (byt_of hR_say_b0 (j := 56) rfl) rfl
theorem dR_say_57 : decode (mcc mR_say) 57 = .ok (.if_icmp .ne 6, 3) := o160 (a := 0) (b := 6) (byt_of hR_say_b0 (j := 57) rfl) (byt_of hR_say_b0 (j := 58) rfl) (byt_of hR_say_b0 (j := 59) rfl) rfl
theorem dR_say_60 : decode (mcc mR_say) 60 = .ok (.bipush (-4), 2) := o16 (a := 252) (byt_of hR_say_b0 (j := 60) rfl) (byt_of hR_say_b0 (j := 61) rfl) rfl
theorem dR_say_62 : decode (mcc mR_say) 62 = .ok (.ireturn, 1) := o172 (byt_of hR_say_b0 (j := 62) rfl)
theorem dR_say_63 : decode (mcc mR_say) 63 = .ok (.aload_n 0, 1) := o42 (byt_of hR_say_b0 (j := 63) rfl)
theorem dR_say_64 : decode (mcc mR_say) 64 = .ok (.aload_n 0, 1) := o42 (byt_of hR_say_b0 (j := 64) rfl)
theorem dR_say_65 : decode (mcc mR_say) 65 = .ok (.getfield 158, 3) := o180 (a := 0) (b := 158) (byt_of hR_say_b0 (j := 65) rfl) (byt_of hR_say_b0 (j := 66) rfl) (byt_of hR_say_b0 (j := 67) rfl) rfl
theorem dR_say_68 : decode (mcc mR_say) 68 = .ok (.iload_n 1, 1) := o27 (byt_of hR_say_b0 (j := 68) rfl)
theorem dR_say_69 : decode (mcc mR_say) 69 = .ok (.iload_n 2, 1) := o28 (byt_of hR_say_b0 (j := 69) rfl)
theorem dR_say_70 : decode (mcc mR_say) 70 = .ok (.invokevirtual 239, 3) := o182 (a := 0) (b := 239) (byt_of hR_say_b0 (j := 70) rfl) (byt_of hR_say_b0 (j := 71) rfl) (byt_of hR_say_b0 (j := 72) rfl) rfl
theorem dR_say_73 : decode (mcc mR_say) 73 = .ok (.aload_n 0, 1) := o42 (byt_of hR_say_b0 (j := 73) rfl)
theorem dR_say_74 : decode (mcc mR_say) 74 = .ok (.dup, 1) := o89 (byt_of hR_say_b0 (j := 74) rfl)
theorem dR_say_75 : decode (mcc mR_say) 75 = .ok (.getfield 158, 3) := o180 (a := 0) (b := 158) (byt_of hR_say_b0 (j := 75) rfl) (byt_of hR_say_b0 (j := 76) rfl) (byt_of hR_say_b0 (j := 77) rfl) rfl
theorem dR_say_78 : decode (mcc mR_say) 78 = .ok (.iconst 1, 1) := o4 (byt_of hR_say_b0 (j := 78) rfl)
theorem dR_say_79 : decode (mcc mR_say) 79 = .ok (.iadd, 1) := o96 (byt_of hR_say_b0 (j := 79) rfl)
theorem dR_say_80 : decode (mcc mR_say) 80 = .ok (.putfield 158, 3) := o181 (a := 0) (b := 158) (byt_of hR_say_b0 (j := 80) rfl) (byt_of hR_say_b0 (j := 81) rfl) (byt_of hR_say_b0 (j := 82) rfl) rfl
theorem dR_say_83 : decode (mcc mR_say) 83 = .ok (.aload_n 0, 1) := o42 (byt_of hR_say_b0 (j := 83) rfl)
theorem dR_say_84 : decode (mcc mR_say) 84 = .ok (.getfield 158, 3) := o180 (a := 0) (b := 158) (byt_of hR_say_b0 (j := 84) rfl) (byt_of hR_say_b0 (j := 85) rfl) (byt_of hR_say_b0 (j := 86) rfl) rfl
theorem dR_say_87 : decode (mcc mR_say) 87 = .ok (.iconst 1, 1) := o4 (byt_of hR_say_b0 (j := 87) rfl)
theorem dR_say_88 : decode (mcc mR_say) 88 = .ok (.isub, 1) := o100 (byt_of hR_say_b0 (j := 88) rfl)
theorem dR_say_89 : decode (mcc mR_say) 89 = .ok (.ireturn, 1) := o172 (byt_of hR_say_b0 (j := 89) rfl)
def bR_unsay_b0 : List Nat := [42, 180, 0, 158, 154, 0, 6, 16, 253, 172, 42, 89, 180, 0, 158, 4, 100, 181, 0, 158, 42, 180, 0, 158, 172]
theorem hR_unsay_b0 : BL (mcc mR_unsay) 0 bR_unsay_b0 := by decide +kernel
theorem dR_unsay_0 : decode (mcc mR_unsay) 0 = .ok (.aload_n 0, 1) := o42 (byt_of hR_unsay_b0 (j := 0) rfl)
theorem dR_unsay_1 : decode (mcc mR_unsay) 1 = .ok (.getfield 158, 3) := o180 (a := 0) (b := 158) (byt_of hR_unsay_b0 (j := 1) rfl) (byt_of hR_unsay_b0 (j := 2) rfl) (byt_of hR_unsay_b0 (j := 3) rfl) rfl
theorem dR_unsay_4 : decode (mcc mR_unsay) 4 = .ok (.ifCond .ne 6, 3) := o154 (a := 0) (b := 6) (byt_of hR_unsay_b0 (j := 4) rfl) (byt_of hR_unsay_b0 (j := 5) rfl) (byt_of hR_unsay_b0 (j := 6) rfl) rfl
theorem dR_unsay_7 : decode (mcc mR_unsay) 7 = .ok (.bipush (-3), 2) := o16 (a := 253) (byt_of hR_unsay_b0 (j := 7) rfl) (byt_of hR_unsay_b0 (j := 8) rfl) rfl
theorem dR_unsay_9 : decode (mcc mR_unsay) 9 = .ok (.ireturn, 1) := o172 (byt_of hR_unsay_b0 (j := 9) rfl)
theorem dR_unsay_10 : decode (mcc mR_unsay) 10 = .ok (.aload_n 0, 1) := o42 (byt_of hR_unsay_b0 (j := 10) rfl)
theorem dR_unsay_11 : decode (mcc mR_unsay) 11 = .ok (.dup, 1) := o89 (byt_of hR_unsay_b0 (j := 11) rfl)
theorem dR_unsay_12 : decode (mcc mR_unsay) 12 = .ok (.getfield 158, 3) := o180 (a := 0) (b := 158) (byt_of hR_unsay_b0 (j := 12) rfl) (byt_of hR_unsay_b0 (j := 13) rfl) (byt_of hR_unsay_b0 (j := 14) rfl) rfl
theorem dR_unsay_15 : decode (mcc mR_unsay) 15 = .ok (.iconst 1, 1) := o4 (byt_of hR_unsay_b0 (j := 15) rfl)
theorem dR_unsay_16 : decode (mcc mR_unsay) 16 = .ok (.isub, 1) := o100 (byt_of hR_unsay_b0 (j := 16) rfl)
theorem dR_unsay_17 : decode (mcc mR_unsay) 17 = .ok (.putfield 158, 3) := o181 (a := 0) (b := 158) (byt_of hR_unsay_b0 (j := 17) rfl) (byt_of hR_unsay_b0 (j := 18) rfl) (byt_of hR_unsay_b0 (j := 19) rfl) rfl
theorem dR_unsay_20 : decode (mcc mR_unsay) 20 = .ok (.aload_n 0, 1) := o42 (byt_of hR_unsay_b0 (j := 20) rfl)
theorem dR_unsay_21 : decode (mcc mR_unsay) 21 = .ok (.getfield 158, 3) := o180 (a := 0) (b := 158) (byt_of hR_unsay_b0 (j := 21) rfl) (byt_of hR_unsay_b0 (j := 22) rfl) (byt_of hR_unsay_b0 (j := 23) rfl) rfl
theorem dR_unsay_24 : decode (mcc mR_unsay) 24 = .ok (.ireturn, 1) := o172 (byt_of hR_unsay_b0 (j := 24) rfl)
def bR_said_b0 : List Nat := [42, 27, 182, 0, 243, 154, 0, 6, 16, 251, 172, 28, 154, 0, 12, 42, 180, 0, 56, 27, 46, 167, 0, 47, 28, 4, 160, 0, 12, 42, 180, 0, 59, 27, 46, 167, 0, 33, 28, 5, 160, 0, 12, 42, 180, 0, 62, 27, 46, 167, 0, 19, 28, 6, 160, 0, 12, 42, 180, 0, 65, 27, 46, 167, 0, 5, 16, 249, 172]
theorem hR_said_b0 : BL (mcc mR_said) 0 bR_said_b0 := by decide +kernel
theorem dR_said_0 : decode (mcc mR_said) 0 = .ok (.aload_n 0, 1) := o42 (byt_of hR_said_b0 (j := 0) rfl)
theorem dR_said_1 : decode (mcc mR_said) 1 = .ok (.iload_n 1, 1) := o27 (byt_of hR_said_b0 (j := 1) rfl)
theorem dR_said_2 : decode (mcc mR_said) 2 = .ok (.invokevirtual 243, 3) := o182 (a := 0) (b := 243) (byt_of hR_said_b0 (j := 2) rfl) (byt_of hR_said_b0 (j := 3) rfl) (byt_of hR_said_b0 (j := 4) rfl) rfl
theorem dR_said_5 : decode (mcc mR_said) 5 = .ok (.ifCond .ne 6, 3) := o154 (a := 0) (b := 6) (byt_of hR_said_b0 (j := 5) rfl) (byt_of hR_said_b0 (j := 6) rfl) (byt_of hR_said_b0 (j := 7) rfl) rfl
theorem dR_said_8 : decode (mcc mR_said) 8 = .ok (.bipush (-5), 2) := o16 (a := 251) (byt_of hR_said_b0 (j := 8) rfl) (byt_of hR_said_b0 (j := 9) rfl) rfl
theorem dR_said_10 : decode (mcc mR_said) 10 = .ok (.ireturn, 1) := o172 (byt_of hR_said_b0 (j := 10) rfl)
theorem dR_said_11 : decode (mcc mR_said) 11 = .ok (.iload_n 2, 1) := o28 (byt_of hR_said_b0 (j := 11) rfl)
theorem dR_said_12 : decode (mcc mR_said) 12 = .ok (.ifCond .ne 12, 3) := o154 (a := 0) (b := 12) (byt_of hR_said_b0 (j := 12) rfl) (byt_of hR_said_b0 (j := 13) rfl) (byt_of hR_said_b0 (j := 14) rfl) rfl
theorem dR_said_15 : decode (mcc mR_said) 15 = .ok (.aload_n 0, 1) := o42 (byt_of hR_said_b0 (j := 15) rfl)
theorem dR_said_16 : decode (mcc mR_said) 16 = .ok (.getfield 56, 3) := o180 (a := 0) (b := 56) (byt_of hR_said_b0 (j := 16) rfl) (byt_of hR_said_b0 (j := 17) rfl) (byt_of hR_said_b0 (j := 18) rfl) rfl
theorem dR_said_19 : decode (mcc mR_said) 19 = .ok (.iload_n 1, 1) := o27 (byt_of hR_said_b0 (j := 19) rfl)
theorem dR_said_20 : decode (mcc mR_said) 20 = .ok (.iaload, 1) := o46 (byt_of hR_said_b0 (j := 20) rfl)
theorem dR_said_21 : decode (mcc mR_said) 21 = .ok (.goto 47, 3) := o167 (a := 0) (b := 47) (byt_of hR_said_b0 (j := 21) rfl) (byt_of hR_said_b0 (j := 22) rfl) (byt_of hR_said_b0 (j := 23) rfl) rfl
theorem dR_said_24 : decode (mcc mR_said) 24 = .ok (.iload_n 2, 1) := o28 (byt_of hR_said_b0 (j := 24) rfl)
theorem dR_said_25 : decode (mcc mR_said) 25 = .ok (.iconst 1, 1) := o4 (byt_of hR_said_b0 (j := 25) rfl)
theorem dR_said_26 : decode (mcc mR_said) 26 = .ok (.if_icmp .ne 12, 3) := o160 (a := 0) (b := 12) (byt_of hR_said_b0 (j := 26) rfl) (byt_of hR_said_b0 (j := 27) rfl) (byt_of hR_said_b0 (j := 28) rfl) rfl
theorem dR_said_29 : decode (mcc mR_said) 29 = .ok (.aload_n 0, 1) := o42 (byt_of hR_said_b0 (j := 29) rfl)
theorem dR_said_30 : decode (mcc mR_said) 30 = .ok (.getfield 59, 3) := o180 (a := 0) (b := 59) (byt_of hR_said_b0 (j := 30) rfl) (byt_of hR_said_b0 (j := 31) rfl) (byt_of hR_said_b0 (j := 32) rfl) rfl
theorem dR_said_33 : decode (mcc mR_said) 33 = .ok (.iload_n 1, 1) := o27 (byt_of hR_said_b0 (j := 33) rfl)
theorem dR_said_34 : decode (mcc mR_said) 34 = .ok (.iaload, 1) := o46 (byt_of hR_said_b0 (j := 34) rfl)
theorem dR_said_35 : decode (mcc mR_said) 35 = .ok (.goto 33, 3) := o167 (a := 0) (b := 33) (byt_of hR_said_b0 (j := 35) rfl) (byt_of hR_said_b0 (j := 36) rfl) (byt_of hR_said_b0 (j := 37) rfl) rfl
theorem dR_said_38 : decode (mcc mR_said) 38 = .ok (.iload_n 2, 1) := o28 (byt_of hR_said_b0 (j := 38) rfl)
theorem dR_said_39 : decode (mcc mR_said) 39 = .ok (.iconst 2, 1) := o5 (byt_of hR_said_b0 (j := 39) rfl)
theorem dR_said_40 : decode (mcc mR_said) 40 = .ok (.if_icmp .ne 12, 3) := o160 (a := 0) (b := 12) (byt_of hR_said_b0 (j := 40) rfl) (byt_of hR_said_b0 (j := 41) rfl) (byt_of hR_said_b0 (j := 42) rfl) rfl
theorem dR_said_43 : decode (mcc mR_said) 43 = .ok (.aload_n 0, 1) := o42 (byt_of hR_said_b0 (j := 43) rfl)
theorem dR_said_44 : decode (mcc mR_said) 44 = .ok (.getfield 62, 3) := o180 (a := 0) (b := 62) (byt_of hR_said_b0 (j := 44) rfl) (byt_of hR_said_b0 (j := 45) rfl) (byt_of hR_said_b0 (j := 46) rfl) rfl
theorem dR_said_47 : decode (mcc mR_said) 47 = .ok (.iload_n 1, 1) := o27 (byt_of hR_said_b0 (j := 47) rfl)
theorem dR_said_48 : decode (mcc mR_said) 48 = .ok (.iaload, 1) := o46 (byt_of hR_said_b0 (j := 48) rfl)
theorem dR_said_49 : decode (mcc mR_said) 49 = .ok (.goto 19, 3) := o167 (a := 0) (b := 19) (byt_of hR_said_b0 (j := 49) rfl) (byt_of hR_said_b0 (j := 50) rfl) (byt_of hR_said_b0 (j := 51) rfl) rfl
theorem dR_said_52 : decode (mcc mR_said) 52 = .ok (.iload_n 2, 1) := o28 (byt_of hR_said_b0 (j := 52) rfl)
theorem dR_said_53 : decode (mcc mR_said) 53 = .ok (.iconst 3, 1) := o6 (byt_of hR_said_b0 (j := 53) rfl)
theorem dR_said_54 : decode (mcc mR_said) 54 = .ok (.if_icmp .ne 12, 3) := o160 (a := 0) (b := 12) (byt_of hR_said_b0 (j := 54) rfl) (byt_of hR_said_b0 (j := 55) rfl) (byt_of hR_said_b0 (j := 56) rfl) rfl
theorem dR_said_57 : decode (mcc mR_said) 57 = .ok (.aload_n 0, 1) := o42 (byt_of hR_said_b0 (j := 57) rfl)
theorem dR_said_58 : decode (mcc mR_said) 58 = .ok (.getfield 65, 3) := o180 (a := 0) (b := 65) (byt_of hR_said_b0 (j := 58) rfl) (byt_of hR_said_b0 (j := 59) rfl) (byt_of hR_said_b0 (j := 60) rfl) rfl
theorem dR_said_61 : decode (mcc mR_said) 61 = .ok (.iload_n 1, 1) := o27 (byt_of hR_said_b0 (j := 61) rfl)
theorem dR_said_62 : decode (mcc mR_said) 62 = .ok (.iaload, 1) := o46 (byt_of hR_said_b0 (j := 62) rfl)
theorem dR_said_63 : decode (mcc mR_said) 63 = .ok (.goto 5, 3) := o167 (a := 0) (b := 5) (byt_of hR_said_b0 (j := 63) rfl) (byt_of hR_said_b0 (j := 64) rfl) (byt_of hR_said_b0 (j := 65) rfl) rfl
theorem dR_said_66 : decode (mcc mR_said) 66 = .ok (.bipush (-7), 2) := o16 (a := 249) (byt_of hR_said_b0 (j := 66) rfl) (byt_of hR_said_b0 (j := 67) rfl) rfl
theorem dR_said_68 : decode (mcc mR_said) 68 = .ok (.ireturn, 1) := o172 (byt_of hR_said_b0 (j := 68) rfl)
def bR_hearsOf_b0 : List Nat := [42, 180, 0, 7, 16, 6, 42, 28, 42, 180, 0, 62, 27, 46, 182, 0, 233, 104, 42, 180, 0, 59, 27, 46, 96, 46, 62, 42, 42, 180, 0, 65, 27, 46, 29, 42, 180, 0, 26, 28, 46, 3, 3, 42, 180, 0, 13, 42, 180, 0, 62, 27, 46, 46, 182, 0, 246, 42, 3, 182, 0, 250, 3, 16, 100, 184, 0, 253, 54, 4, 42, 180, 0, 20, 28, 46, 5, 160, 0, 10, 21, 4, 5, 108, 167, 0, 34, 42, 180, 0, 20, 28, 46, 8, 160, 0, 22, 42, 180, 0, 65, 27]
theorem hR_hearsOf_b0 : BL (mcc mR_hearsOf) 0 bR_hearsOf_b0 := by decide +kernel
theorem dR_hearsOf_0 : decode (mcc mR_hearsOf) 0 = .ok (.aload_n 0, 1) := o42 (byt_of hR_hearsOf_b0 (j := 0) rfl)
theorem dR_hearsOf_1 : decode (mcc mR_hearsOf) 1 = .ok (.getfield 7, 3) := o180 (a := 0) (b := 7) (byt_of hR_hearsOf_b0 (j := 1) rfl) (byt_of hR_hearsOf_b0 (j := 2) rfl) (byt_of hR_hearsOf_b0 (j := 3) rfl) rfl
theorem dR_hearsOf_4 : decode (mcc mR_hearsOf) 4 = .ok (.bipush 6, 2) := o16 (a := 6) (byt_of hR_hearsOf_b0 (j := 4) rfl) (byt_of hR_hearsOf_b0 (j := 5) rfl) rfl
theorem dR_hearsOf_6 : decode (mcc mR_hearsOf) 6 = .ok (.aload_n 0, 1) := o42 (byt_of hR_hearsOf_b0 (j := 6) rfl)
theorem dR_hearsOf_7 : decode (mcc mR_hearsOf) 7 = .ok (.iload_n 2, 1) := o28 (byt_of hR_hearsOf_b0 (j := 7) rfl)
theorem dR_hearsOf_8 : decode (mcc mR_hearsOf) 8 = .ok (.aload_n 0, 1) := o42 (byt_of hR_hearsOf_b0 (j := 8) rfl)
theorem dR_hearsOf_9 : decode (mcc mR_hearsOf) 9 = .ok (.getfield 62, 3) := o180 (a := 0) (b := 62) (byt_of hR_hearsOf_b0 (j := 9) rfl) (byt_of hR_hearsOf_b0 (j := 10) rfl) (byt_of hR_hearsOf_b0 (j := 11) rfl) rfl
theorem dR_hearsOf_12 : decode (mcc mR_hearsOf) 12 = .ok (.iload_n 1, 1) := o27 (byt_of hR_hearsOf_b0 (j := 12) rfl)
theorem dR_hearsOf_13 : decode (mcc mR_hearsOf) 13 = .ok (.iaload, 1) := o46 (byt_of hR_hearsOf_b0 (j := 13) rfl)
theorem dR_hearsOf_14 : decode (mcc mR_hearsOf) 14 = .ok (.invokevirtual 233, 3) := o182 (a := 0) (b := 233) (byt_of hR_hearsOf_b0 (j := 14) rfl) (byt_of hR_hearsOf_b0 (j := 15) rfl) (byt_of hR_hearsOf_b0 (j := 16) rfl) rfl
theorem dR_hearsOf_17 : decode (mcc mR_hearsOf) 17 = .ok (.imul, 1) := o104 (byt_of hR_hearsOf_b0 (j := 17) rfl)
theorem dR_hearsOf_18 : decode (mcc mR_hearsOf) 18 = .ok (.aload_n 0, 1) := o42 (byt_of hR_hearsOf_b0 (j := 18) rfl)
theorem dR_hearsOf_19 : decode (mcc mR_hearsOf) 19 = .ok (.getfield 59, 3) := o180 (a := 0) (b := 59) (byt_of hR_hearsOf_b0 (j := 19) rfl) (byt_of hR_hearsOf_b0 (j := 20) rfl) (byt_of hR_hearsOf_b0 (j := 21) rfl) rfl
theorem dR_hearsOf_22 : decode (mcc mR_hearsOf) 22 = .ok (.iload_n 1, 1) := o27 (byt_of hR_hearsOf_b0 (j := 22) rfl)
theorem dR_hearsOf_23 : decode (mcc mR_hearsOf) 23 = .ok (.iaload, 1) := o46 (byt_of hR_hearsOf_b0 (j := 23) rfl)
theorem dR_hearsOf_24 : decode (mcc mR_hearsOf) 24 = .ok (.iadd, 1) := o96 (byt_of hR_hearsOf_b0 (j := 24) rfl)
theorem dR_hearsOf_25 : decode (mcc mR_hearsOf) 25 = .ok (.iaload, 1) := o46 (byt_of hR_hearsOf_b0 (j := 25) rfl)
theorem dR_hearsOf_26 : decode (mcc mR_hearsOf) 26 = .ok (.istore_n 3, 1) := o62 (byt_of hR_hearsOf_b0 (j := 26) rfl)
theorem dR_hearsOf_27 : decode (mcc mR_hearsOf) 27 = .ok (.aload_n 0, 1) := o42 (byt_of hR_hearsOf_b0 (j := 27) rfl)
theorem dR_hearsOf_28 : decode (mcc mR_hearsOf) 28 = .ok (.aload_n 0, 1) := o42 (byt_of hR_hearsOf_b0 (j := 28) rfl)
theorem dR_hearsOf_29 : decode (mcc mR_hearsOf) 29 = .ok (.getfield 65, 3) := o180 (a := 0) (b := 65) (byt_of hR_hearsOf_b0 (j := 29) rfl) (byt_of hR_hearsOf_b0 (j := 30) rfl) (byt_of hR_hearsOf_b0 (j := 31) rfl) rfl
theorem dR_hearsOf_32 : decode (mcc mR_hearsOf) 32 = .ok (.iload_n 1, 1) := o27 (byt_of hR_hearsOf_b0 (j := 32) rfl)
theorem dR_hearsOf_33 : decode (mcc mR_hearsOf) 33 = .ok (.iaload, 1) := o46 (byt_of hR_hearsOf_b0 (j := 33) rfl)
theorem dR_hearsOf_34 : decode (mcc mR_hearsOf) 34 = .ok (.iload_n 3, 1) := o29 (byt_of hR_hearsOf_b0 (j := 34) rfl)
theorem dR_hearsOf_35 : decode (mcc mR_hearsOf) 35 = .ok (.aload_n 0, 1) := o42 (byt_of hR_hearsOf_b0 (j := 35) rfl)
theorem dR_hearsOf_36 : decode (mcc mR_hearsOf) 36 = .ok (.getfield 26, 3) := o180 (a := 0) (b := 26) (byt_of hR_hearsOf_b0 (j := 36) rfl) (byt_of hR_hearsOf_b0 (j := 37) rfl) (byt_of hR_hearsOf_b0 (j := 38) rfl) rfl
theorem dR_hearsOf_39 : decode (mcc mR_hearsOf) 39 = .ok (.iload_n 2, 1) := o28 (byt_of hR_hearsOf_b0 (j := 39) rfl)
theorem dR_hearsOf_40 : decode (mcc mR_hearsOf) 40 = .ok (.iaload, 1) := o46 (byt_of hR_hearsOf_b0 (j := 40) rfl)
theorem dR_hearsOf_41 : decode (mcc mR_hearsOf) 41 = .ok (.iconst 0, 1) := o3 (byt_of hR_hearsOf_b0 (j := 41) rfl)
theorem dR_hearsOf_42 : decode (mcc mR_hearsOf) 42 = .ok (.iconst 0, 1) := o3 (byt_of hR_hearsOf_b0 (j := 42) rfl)
theorem dR_hearsOf_43 : decode (mcc mR_hearsOf) 43 = .ok (.aload_n 0, 1) := o42 (byt_of hR_hearsOf_b0 (j := 43) rfl)
theorem dR_hearsOf_44 : decode (mcc mR_hearsOf) 44 = .ok (.getfield 13, 3) := o180 (a := 0) (b := 13) (byt_of hR_hearsOf_b0 (j := 44) rfl) (byt_of hR_hearsOf_b0 (j := 45) rfl) (byt_of hR_hearsOf_b0 (j := 46) rfl) rfl
theorem dR_hearsOf_47 : decode (mcc mR_hearsOf) 47 = .ok (.aload_n 0, 1) := o42 (byt_of hR_hearsOf_b0 (j := 47) rfl)
theorem dR_hearsOf_48 : decode (mcc mR_hearsOf) 48 = .ok (.getfield 62, 3) := o180 (a := 0) (b := 62) (byt_of hR_hearsOf_b0 (j := 48) rfl) (byt_of hR_hearsOf_b0 (j := 49) rfl) (byt_of hR_hearsOf_b0 (j := 50) rfl) rfl
theorem dR_hearsOf_51 : decode (mcc mR_hearsOf) 51 = .ok (.iload_n 1, 1) := o27 (byt_of hR_hearsOf_b0 (j := 51) rfl)
theorem dR_hearsOf_52 : decode (mcc mR_hearsOf) 52 = .ok (.iaload, 1) := o46 (byt_of hR_hearsOf_b0 (j := 52) rfl)
theorem dR_hearsOf_53 : decode (mcc mR_hearsOf) 53 = .ok (.iaload, 1) := o46 (byt_of hR_hearsOf_b0 (j := 53) rfl)
theorem dR_hearsOf_54 : decode (mcc mR_hearsOf) 54 = .ok (.invokevirtual 246, 3) := o182 (a := 0) (b := 246) (byt_of hR_hearsOf_b0 (j := 54) rfl) (byt_of hR_hearsOf_b0 (j := 55) rfl) (byt_of hR_hearsOf_b0 (j := 56) rfl) rfl
theorem dR_hearsOf_57 : decode (mcc mR_hearsOf) 57 = .ok (.aload_n 0, 1) := o42 (byt_of hR_hearsOf_b0 (j := 57) rfl)
theorem dR_hearsOf_58 : decode (mcc mR_hearsOf) 58 = .ok (.iconst 0, 1) := o3 (byt_of hR_hearsOf_b0 (j := 58) rfl)
theorem dR_hearsOf_59 : decode (mcc mR_hearsOf) 59 = .ok (.invokevirtual 250, 3) := o182 (a := 0) (b := 250) (byt_of hR_hearsOf_b0 (j := 59) rfl) (byt_of hR_hearsOf_b0 (j := 60) rfl) (byt_of hR_hearsOf_b0 (j := 61) rfl) rfl
theorem dR_hearsOf_62 : decode (mcc mR_hearsOf) 62 = .ok (.iconst 0, 1) := o3 (byt_of hR_hearsOf_b0 (j := 62) rfl)
theorem dR_hearsOf_63 : decode (mcc mR_hearsOf) 63 = .ok (.bipush 100, 2) := o16 (a := 100) (byt_of hR_hearsOf_b0 (j := 63) rfl) (byt_of hR_hearsOf_b0 (j := 64) rfl) rfl
theorem dR_hearsOf_65 : decode (mcc mR_hearsOf) 65 = .ok (.invokestatic 253, 3) := o184 (a := 0) (b := 253) (byt_of hR_hearsOf_b0 (j := 65) rfl) (byt_of hR_hearsOf_b0 (j := 66) rfl) (byt_of hR_hearsOf_b0 (j := 67) rfl) rfl
theorem dR_hearsOf_68 : decode (mcc mR_hearsOf) 68 = .ok (.istore 4, 2) := o54 (a := 4) (byt_of hR_hearsOf_b0 (j := 68) rfl) (byt_of hR_hearsOf_b0 (j := 69) rfl)
theorem dR_hearsOf_70 : decode (mcc mR_hearsOf) 70 = .ok (.aload_n 0, 1) := o42 (byt_of hR_hearsOf_b0 (j := 70) rfl)
theorem dR_hearsOf_71 : decode (mcc mR_hearsOf) 71 = .ok (.getfield 20, 3) := o180 (a := 0) (b := 20) (byt_of hR_hearsOf_b0 (j := 71) rfl) (byt_of hR_hearsOf_b0 (j := 72) rfl) (byt_of hR_hearsOf_b0 (j := 73) rfl) rfl
theorem dR_hearsOf_74 : decode (mcc mR_hearsOf) 74 = .ok (.iload_n 2, 1) := o28 (byt_of hR_hearsOf_b0 (j := 74) rfl)
theorem dR_hearsOf_75 : decode (mcc mR_hearsOf) 75 = .ok (.iaload, 1) := o46 (byt_of hR_hearsOf_b0 (j := 75) rfl)
theorem dR_hearsOf_76 : decode (mcc mR_hearsOf) 76 = .ok (.iconst 2, 1) := o5 (byt_of hR_hearsOf_b0 (j := 76) rfl)
theorem dR_hearsOf_77 : decode (mcc mR_hearsOf) 77 = .ok (.if_icmp .ne 10, 3) := o160 (a := 0) (b := 10) (byt_of hR_hearsOf_b0 (j := 77) rfl) (byt_of hR_hearsOf_b0 (j := 78) rfl) (byt_of hR_hearsOf_b0 (j := 79) rfl) rfl
theorem dR_hearsOf_80 : decode (mcc mR_hearsOf) 80 = .ok (.iload 4, 2) := o21 (a := 4) (byt_of hR_hearsOf_b0 (j := 80) rfl) (byt_of hR_hearsOf_b0 (j := 81) rfl)
theorem dR_hearsOf_82 : decode (mcc mR_hearsOf) 82 = .ok (.iconst 2, 1) := o5 (byt_of hR_hearsOf_b0 (j := 82) rfl)
theorem dR_hearsOf_83 : decode (mcc mR_hearsOf) 83 = .ok (.idiv, 1) := o108 (byt_of hR_hearsOf_b0 (j := 83) rfl)
theorem dR_hearsOf_84 : decode (mcc mR_hearsOf) 84 = .ok (.goto 34, 3) := o167 (a := 0) (b := 34) (byt_of hR_hearsOf_b0 (j := 84) rfl) (byt_of hR_hearsOf_b0 (j := 85) rfl) (byt_of hR_hearsOf_b0 (j := 86) rfl) rfl
theorem dR_hearsOf_87 : decode (mcc mR_hearsOf) 87 = .ok (.aload_n 0, 1) := o42 (byt_of hR_hearsOf_b0 (j := 87) rfl)
theorem dR_hearsOf_88 : decode (mcc mR_hearsOf) 88 = .ok (.getfield 20, 3) := o180 (a := 0) (b := 20) (byt_of hR_hearsOf_b0 (j := 88) rfl) (byt_of hR_hearsOf_b0 (j := 89) rfl) (byt_of hR_hearsOf_b0 (j := 90) rfl) rfl
theorem dR_hearsOf_91 : decode (mcc mR_hearsOf) 91 = .ok (.iload_n 2, 1) := o28 (byt_of hR_hearsOf_b0 (j := 91) rfl)
theorem dR_hearsOf_92 : decode (mcc mR_hearsOf) 92 = .ok (.iaload, 1) := o46 (byt_of hR_hearsOf_b0 (j := 92) rfl)
theorem dR_hearsOf_93 : decode (mcc mR_hearsOf) 93 = .ok (.iconst 5, 1) := o8 (byt_of hR_hearsOf_b0 (j := 93) rfl)
theorem dR_hearsOf_94 : decode (mcc mR_hearsOf) 94 = .ok (.if_icmp .ne 22, 3) := o160 (a := 0) (b := 22) (byt_of hR_hearsOf_b0 (j := 94) rfl) (byt_of hR_hearsOf_b0 (j := 95) rfl) (byt_of hR_hearsOf_b0 (j := 96) rfl) rfl
def bR_hearsOf_b1 : List Nat := [22, 42, 180, 0, 65, 27, 46, 42, 180, 0, 29, 28, 46, 164, 0, 7, 3, 167, 0, 5, 21, 4, 172]
theorem hR_hearsOf_b1 : BL (mcc mR_hearsOf) 96 bR_hearsOf_b1 := by decide +kernel
theorem dR_hearsOf_97 : decode (mcc mR_hearsOf) 97 = .ok (.aload_n 0, 1) := o42 (byt_of hR_hearsOf_b1 (j := 1) rfl)
theorem dR_hearsOf_98 : decode (mcc mR_hearsOf) 98 = .ok (.getfield 65, 3) := o180 (a := 0) (b := 65) (byt_of hR_hearsOf_b1 (j := 2) rfl) (byt_of hR_hearsOf_b1 (j := 3) rfl) (byt_of hR_hearsOf_b1 (j := 4) rfl) rfl
theorem dR_hearsOf_101 : decode (mcc mR_hearsOf) 101 = .ok (.iload_n 1, 1) := o27 (byt_of hR_hearsOf_b1 (j := 5) rfl)
theorem dR_hearsOf_102 : decode (mcc mR_hearsOf) 102 = .ok (.iaload, 1) := o46 (byt_of hR_hearsOf_b1 (j := 6) rfl)
theorem dR_hearsOf_103 : decode (mcc mR_hearsOf) 103 = .ok (.aload_n 0, 1) := o42 (byt_of hR_hearsOf_b1 (j := 7) rfl)
theorem dR_hearsOf_104 : decode (mcc mR_hearsOf) 104 = .ok (.getfield 29, 3) := o180 (a := 0) (b := 29) (byt_of hR_hearsOf_b1 (j := 8) rfl) (byt_of hR_hearsOf_b1 (j := 9) rfl) (byt_of hR_hearsOf_b1 (j := 10) rfl) rfl
theorem dR_hearsOf_107 : decode (mcc mR_hearsOf) 107 = .ok (.iload_n 2, 1) := o28 (byt_of hR_hearsOf_b1 (j := 11) rfl)
theorem dR_hearsOf_108 : decode (mcc mR_hearsOf) 108 = .ok (.iaload, 1) := o46 (byt_of hR_hearsOf_b1 (j := 12) rfl)
theorem dR_hearsOf_109 : decode (mcc mR_hearsOf) 109 = .ok (.if_icmp .le 7, 3) := o164 (a := 0) (b := 7) (byt_of hR_hearsOf_b1 (j := 13) rfl) (byt_of hR_hearsOf_b1 (j := 14) rfl) (byt_of hR_hearsOf_b1 (j := 15) rfl) rfl
theorem dR_hearsOf_112 : decode (mcc mR_hearsOf) 112 = .ok (.iconst 0, 1) := o3 (byt_of hR_hearsOf_b1 (j := 16) rfl)
theorem dR_hearsOf_113 : decode (mcc mR_hearsOf) 113 = .ok (.goto 5, 3) := o167 (a := 0) (b := 5) (byt_of hR_hearsOf_b1 (j := 17) rfl) (byt_of hR_hearsOf_b1 (j := 18) rfl) (byt_of hR_hearsOf_b1 (j := 19) rfl) rfl
theorem dR_hearsOf_116 : decode (mcc mR_hearsOf) 116 = .ok (.iload 4, 2) := o21 (a := 4) (byt_of hR_hearsOf_b1 (j := 20) rfl) (byt_of hR_hearsOf_b1 (j := 21) rfl)
theorem dR_hearsOf_118 : decode (mcc mR_hearsOf) 118 = .ok (.ireturn, 1) := o172 (byt_of hR_hearsOf_b1 (j := 22) rfl)
def bR_hears_b0 : List Nat := [42, 27, 182, 0, 243, 153, 0, 20, 42, 28, 182, 0, 230, 153, 0, 12, 42, 27, 28, 182, 1, 0, 167, 0, 5, 16, 251, 172]
theorem hR_hears_b0 : BL (mcc mR_hears) 0 bR_hears_b0 := by decide +kernel
theorem dR_hears_0 : decode (mcc mR_hears) 0 = .ok (.aload_n 0, 1) := o42 (byt_of hR_hears_b0 (j := 0) rfl)
theorem dR_hears_1 : decode (mcc mR_hears) 1 = .ok (.iload_n 1, 1) := o27 (byt_of hR_hears_b0 (j := 1) rfl)
theorem dR_hears_2 : decode (mcc mR_hears) 2 = .ok (.invokevirtual 243, 3) := o182 (a := 0) (b := 243) (byt_of hR_hears_b0 (j := 2) rfl) (byt_of hR_hears_b0 (j := 3) rfl) (byt_of hR_hears_b0 (j := 4) rfl) rfl
theorem dR_hears_5 : decode (mcc mR_hears) 5 = .ok (.ifCond .eq 20, 3) := o153 (a := 0) (b := 20) (byt_of hR_hears_b0 (j := 5) rfl) (byt_of hR_hears_b0 (j := 6) rfl) (byt_of hR_hears_b0 (j := 7) rfl) rfl
theorem dR_hears_8 : decode (mcc mR_hears) 8 = .ok (.aload_n 0, 1) := o42 (byt_of hR_hears_b0 (j := 8) rfl)
theorem dR_hears_9 : decode (mcc mR_hears) 9 = .ok (.iload_n 2, 1) := o28 (byt_of hR_hears_b0 (j := 9) rfl)
theorem dR_hears_10 : decode (mcc mR_hears) 10 = .ok (.invokevirtual 230, 3) := o182 (a := 0) (b := 230) (byt_of hR_hears_b0 (j := 10) rfl) (byt_of hR_hears_b0 (j := 11) rfl) (byt_of hR_hears_b0 (j := 12) rfl) rfl
theorem dR_hears_13 : decode (mcc mR_hears) 13 = .ok (.ifCond .eq 12, 3) := o153 (a := 0) (b := 12) (byt_of hR_hears_b0 (j := 13) rfl) (byt_of hR_hears_b0 (j := 14) rfl) (byt_of hR_hears_b0 (j := 15) rfl) rfl
theorem dR_hears_16 : decode (mcc mR_hears) 16 = .ok (.aload_n 0, 1) := o42 (byt_of hR_hears_b0 (j := 16) rfl)
theorem dR_hears_17 : decode (mcc mR_hears) 17 = .ok (.iload_n 1, 1) := o27 (byt_of hR_hears_b0 (j := 17) rfl)
theorem dR_hears_18 : decode (mcc mR_hears) 18 = .ok (.iload_n 2, 1) := o28 (byt_of hR_hears_b0 (j := 18) rfl)
theorem dR_hears_19 : decode (mcc mR_hears) 19 = .ok (.invokevirtual 256, 3) := o182 (a := 1) (b := 0) (byt_of hR_hears_b0 (j := 19) rfl) (byt_of hR_hears_b0 (j := 20) rfl) (byt_of hR_hears_b0 (j := 21) rfl) rfl
theorem dR_hears_22 : decode (mcc mR_hears) 22 = .ok (.goto 5, 3) := o167 (a := 0) (b := 5) (byt_of hR_hears_b0 (j := 22) rfl) (byt_of hR_hears_b0 (j := 23) rfl) (byt_of hR_hears_b0 (j := 24) rfl) rfl
theorem dR_hears_25 : decode (mcc mR_hears) 25 = .ok (.bipush (-5), 2) := o16 (a := 251) (byt_of hR_hears_b0 (j := 25) rfl) (byt_of hR_hears_b0 (j := 26) rfl) rfl
theorem dR_hears_27 : decode (mcc mR_hears) 27 = .ok (.ireturn, 1) := o172 (byt_of hR_hears_b0 (j := 27) rfl)
def bR_isClear_b0 : List Nat := [42, 27, 28, 182, 1, 0, 62, 42, 180, 1, 3, 154, 0, 15, 29, 16, 50, 161, 0, 7, 4, 167, 0, 4, 3, 172, 42, 42, 180, 1, 7, 20, 1, 11, 105, 20, 1, 13, 113, 181, 1, 7, 42, 180, 1, 7, 20, 1, 15, 113, 29, 133, 148, 156, 0, 7, 4, 167, 0, 4, 3, 172]
theorem hR_isClear_b0 : BL (mcc mR_isClear) 0 bR_isClear_b0 := by decide +kernel
theorem dR_isClear_0 : decode (mcc mR_isClear) 0 = .ok (.aload_n 0, 1) := o42 (byt_of hR_isClear_b0 (j := 0) rfl)
theorem dR_isClear_1 : decode (mcc mR_isClear) 1 = .ok (.iload_n 1, 1) := o27 (byt_of hR_isClear_b0 (j := 1) rfl)
theorem dR_isClear_2 : decode (mcc mR_isClear) 2 = .ok (.iload_n 2, 1) := o28 (byt_of hR_isClear_b0 (j := 2) rfl)
theorem dR_isClear_3 : decode (mcc mR_isClear) 3 = .ok (.invokevirtual 256, 3) := o182 (a := 1) (b := 0) (byt_of hR_isClear_b0 (j := 3) rfl) (byt_of hR_isClear_b0 (j := 4) rfl) (byt_of hR_isClear_b0 (j := 5) rfl) rfl
theorem dR_isClear_6 : decode (mcc mR_isClear) 6 = .ok (.istore_n 3, 1) := o62 (byt_of hR_isClear_b0 (j := 6) rfl)
theorem dR_isClear_7 : decode (mcc mR_isClear) 7 = .ok (.aload_n 0, 1) := o42 (byt_of hR_isClear_b0 (j := 7) rfl)
theorem dR_isClear_8 : decode (mcc mR_isClear) 8 = .ok (.getfield 259, 3) := o180 (a := 1) (b := 3) (byt_of hR_isClear_b0 (j := 8) rfl) (byt_of hR_isClear_b0 (j := 9) rfl) (byt_of hR_isClear_b0 (j := 10) rfl) rfl
theorem dR_isClear_11 : decode (mcc mR_isClear) 11 = .ok (.ifCond .ne 15, 3) := o154 (a := 0) (b := 15) (byt_of hR_isClear_b0 (j := 11) rfl) (byt_of hR_isClear_b0 (j := 12) rfl) (byt_of hR_isClear_b0 (j := 13) rfl) rfl
theorem dR_isClear_14 : decode (mcc mR_isClear) 14 = .ok (.iload_n 3, 1) := o29 (byt_of hR_isClear_b0 (j := 14) rfl)
theorem dR_isClear_15 : decode (mcc mR_isClear) 15 = .ok (.bipush 50, 2) := o16 (a := 50) (byt_of hR_isClear_b0 (j := 15) rfl) (byt_of hR_isClear_b0 (j := 16) rfl) rfl
theorem dR_isClear_17 : decode (mcc mR_isClear) 17 = .ok (.if_icmp .lt 7, 3) := o161 (a := 0) (b := 7) (byt_of hR_isClear_b0 (j := 17) rfl) (byt_of hR_isClear_b0 (j := 18) rfl) (byt_of hR_isClear_b0 (j := 19) rfl) rfl
theorem dR_isClear_20 : decode (mcc mR_isClear) 20 = .ok (.iconst 1, 1) := o4 (byt_of hR_isClear_b0 (j := 20) rfl)
theorem dR_isClear_21 : decode (mcc mR_isClear) 21 = .ok (.goto 4, 3) := o167 (a := 0) (b := 4) (byt_of hR_isClear_b0 (j := 21) rfl) (byt_of hR_isClear_b0 (j := 22) rfl) (byt_of hR_isClear_b0 (j := 23) rfl) rfl
theorem dR_isClear_24 : decode (mcc mR_isClear) 24 = .ok (.iconst 0, 1) := o3 (byt_of hR_isClear_b0 (j := 24) rfl)
theorem dR_isClear_25 : decode (mcc mR_isClear) 25 = .ok (.ireturn, 1) := o172 (byt_of hR_isClear_b0 (j := 25) rfl)
theorem dR_isClear_26 : decode (mcc mR_isClear) 26 = .ok (.aload_n 0, 1) := o42 (byt_of hR_isClear_b0 (j := 26) rfl)
theorem dR_isClear_27 : decode (mcc mR_isClear) 27 = .ok (.aload_n 0, 1) := o42 (byt_of hR_isClear_b0 (j := 27) rfl)
theorem dR_isClear_28 : decode (mcc mR_isClear) 28 = .ok (.getfield 263, 3) := o180 (a := 1) (b := 7) (byt_of hR_isClear_b0 (j := 28) rfl) (byt_of hR_isClear_b0 (j := 29) rfl) (byt_of hR_isClear_b0 (j := 30) rfl) rfl
theorem dR_isClear_31 : decode (mcc mR_isClear) 31 = .ok (.ldc2_w 267, 3) := o20 (a := 1) (b := 11) (byt_of hR_isClear_b0 (j := 31) rfl) (byt_of hR_isClear_b0 (j := 32) rfl) (byt_of hR_isClear_b0 (j := 33) rfl) rfl
theorem dR_isClear_34 : decode (mcc mR_isClear) 34 = .ok (.lmul, 1) := o105 (byt_of hR_isClear_b0 (j := 34) rfl)
theorem dR_isClear_35 : decode (mcc mR_isClear) 35 = .ok (.ldc2_w 269, 3) := o20 (a := 1) (b := 13) (byt_of hR_isClear_b0 (j := 35) rfl) (byt_of hR_isClear_b0 (j := 36) rfl) (byt_of hR_isClear_b0 (j := 37) rfl) rfl
theorem dR_isClear_38 : decode (mcc mR_isClear) 38 = .ok (.lrem, 1) := o113 (byt_of hR_isClear_b0 (j := 38) rfl)
theorem dR_isClear_39 : decode (mcc mR_isClear) 39 = .ok (.putfield 263, 3) := o181 (a := 1) (b := 7) (byt_of hR_isClear_b0 (j := 39) rfl) (byt_of hR_isClear_b0 (j := 40) rfl) (byt_of hR_isClear_b0 (j := 41) rfl) rfl
theorem dR_isClear_42 : decode (mcc mR_isClear) 42 = .ok (.aload_n 0, 1) := o42 (byt_of hR_isClear_b0 (j := 42) rfl)
theorem dR_isClear_43 : decode (mcc mR_isClear) 43 = .ok (.getfield 263, 3) := o180 (a := 1) (b := 7) (byt_of hR_isClear_b0 (j := 43) rfl) (byt_of hR_isClear_b0 (j := 44) rfl) (byt_of hR_isClear_b0 (j := 45) rfl) rfl
theorem dR_isClear_46 : decode (mcc mR_isClear) 46 = .ok (.ldc2_w 271, 3) := o20 (a := 1) (b := 15) (byt_of hR_isClear_b0 (j := 46) rfl) (byt_of hR_isClear_b0 (j := 47) rfl) (byt_of hR_isClear_b0 (j := 48) rfl) rfl
theorem dR_isClear_49 : decode (mcc mR_isClear) 49 = .ok (.lrem, 1) := o113 (byt_of hR_isClear_b0 (j := 49) rfl)
theorem dR_isClear_50 : decode (mcc mR_isClear) 50 = .ok (.iload_n 3, 1) := o29 (byt_of hR_isClear_b0 (j := 50) rfl)
theorem dR_isClear_51 : decode (mcc mR_isClear) 51 = .ok (.i2l, 1) := o133 (byt_of hR_isClear_b0 (j := 51) rfl)
theorem dR_isClear_52 : decode (mcc mR_isClear) 52 = .ok (.lcmp, 1) := o148 (byt_of hR_isClear_b0 (j := 52) rfl)
theorem dR_isClear_53 : decode (mcc mR_isClear) 53 = .ok (.ifCond .ge 7, 3) := o156 (a := 0) (b := 7) (byt_of hR_isClear_b0 (j := 53) rfl) (byt_of hR_isClear_b0 (j := 54) rfl) (byt_of hR_isClear_b0 (j := 55) rfl) rfl
theorem dR_isClear_56 : decode (mcc mR_isClear) 56 = .ok (.iconst 1, 1) := o4 (byt_of hR_isClear_b0 (j := 56) rfl)
theorem dR_isClear_57 : decode (mcc mR_isClear) 57 = .ok (.goto 4, 3) := o167 (a := 0) (b := 4) (byt_of hR_isClear_b0 (j := 57) rfl) (byt_of hR_isClear_b0 (j := 58) rfl) (byt_of hR_isClear_b0 (j := 59) rfl) rfl
theorem dR_isClear_60 : decode (mcc mR_isClear) 60 = .ok (.iconst 0, 1) := o3 (byt_of hR_isClear_b0 (j := 60) rfl)
theorem dR_isClear_61 : decode (mcc mR_isClear) 61 = .ok (.ireturn, 1) := o172 (byt_of hR_isClear_b0 (j := 61) rfl)
def bR_clearTo_b0 : List Nat := [3, 61, 3, 62, 29, 42, 180, 0, 148, 162, 0, 28, 28, 42, 27, 29, 182, 1, 17, 153, 0, 9, 4, 29, 120, 167, 0, 4, 3, 128, 61, 132, 3, 1, 167, 255, 226, 28, 172]
theorem hR_clearTo_b0 : BL (mcc mR_clearTo) 0 bR_clearTo_b0 := by decide +kernel
theorem dR_clearTo_0 : decode (mcc mR_clearTo) 0 = .ok (.iconst 0, 1) := o3 (byt_of hR_clearTo_b0 (j := 0) rfl)
theorem dR_clearTo_1 : decode (mcc mR_clearTo) 1 = .ok (.istore_n 2, 1) := o61 (byt_of hR_clearTo_b0 (j := 1) rfl)
theorem dR_clearTo_2 : decode (mcc mR_clearTo) 2 = .ok (.iconst 0, 1) := o3 (byt_of hR_clearTo_b0 (j := 2) rfl)
theorem dR_clearTo_3 : decode (mcc mR_clearTo) 3 = .ok (.istore_n 3, 1) := o62 (byt_of hR_clearTo_b0 (j := 3) rfl)
theorem dR_clearTo_4 : decode (mcc mR_clearTo) 4 = .ok (.iload_n 3, 1) := o29 (byt_of hR_clearTo_b0 (j := 4) rfl)
theorem dR_clearTo_5 : decode (mcc mR_clearTo) 5 = .ok (.aload_n 0, 1) := o42 (byt_of hR_clearTo_b0 (j := 5) rfl)
theorem dR_clearTo_6 : decode (mcc mR_clearTo) 6 = .ok (.getfield 148, 3) := o180 (a := 0) (b := 148) (byt_of hR_clearTo_b0 (j := 6) rfl) (byt_of hR_clearTo_b0 (j := 7) rfl) (byt_of hR_clearTo_b0 (j := 8) rfl) rfl
theorem dR_clearTo_9 : decode (mcc mR_clearTo) 9 = .ok (.if_icmp .ge 28, 3) := o162 (a := 0) (b := 28) (byt_of hR_clearTo_b0 (j := 9) rfl) (byt_of hR_clearTo_b0 (j := 10) rfl) (byt_of hR_clearTo_b0 (j := 11) rfl) rfl
theorem dR_clearTo_12 : decode (mcc mR_clearTo) 12 = .ok (.iload_n 2, 1) := o28 (byt_of hR_clearTo_b0 (j := 12) rfl)
theorem dR_clearTo_13 : decode (mcc mR_clearTo) 13 = .ok (.aload_n 0, 1) := o42 (byt_of hR_clearTo_b0 (j := 13) rfl)
theorem dR_clearTo_14 : decode (mcc mR_clearTo) 14 = .ok (.iload_n 1, 1) := o27 (byt_of hR_clearTo_b0 (j := 14) rfl)
theorem dR_clearTo_15 : decode (mcc mR_clearTo) 15 = .ok (.iload_n 3, 1) := o29 (byt_of hR_clearTo_b0 (j := 15) rfl)
theorem dR_clearTo_16 : decode (mcc mR_clearTo) 16 = .ok (.invokevirtual 273, 3) := o182 (a := 1) (b := 17) (byt_of hR_clearTo_b0 (j := 16) rfl) (byt_of hR_clearTo_b0 (j := 17) rfl) (byt_of hR_clearTo_b0 (j := 18) rfl) rfl
theorem dR_clearTo_19 : decode (mcc mR_clearTo) 19 = .ok (.ifCond .eq 9, 3) := o153 (a := 0) (b := 9) (byt_of hR_clearTo_b0 (j := 19) rfl) (byt_of hR_clearTo_b0 (j := 20) rfl) (byt_of hR_clearTo_b0 (j := 21) rfl) rfl
theorem dR_clearTo_22 : decode (mcc mR_clearTo) 22 = .ok (.iconst 1, 1) := o4 (byt_of hR_clearTo_b0 (j := 22) rfl)
theorem dR_clearTo_23 : decode (mcc mR_clearTo) 23 = .ok (.iload_n 3, 1) := o29 (byt_of hR_clearTo_b0 (j := 23) rfl)
theorem dR_clearTo_24 : decode (mcc mR_clearTo) 24 = .ok (.ishl, 1) := o120 (byt_of hR_clearTo_b0 (j := 24) rfl)
theorem dR_clearTo_25 : decode (mcc mR_clearTo) 25 = .ok (.goto 4, 3) := o167 (a := 0) (b := 4) (byt_of hR_clearTo_b0 (j := 25) rfl) (byt_of hR_clearTo_b0 (j := 26) rfl) (byt_of hR_clearTo_b0 (j := 27) rfl) rfl
theorem dR_clearTo_28 : decode (mcc mR_clearTo) 28 = .ok (.iconst 0, 1) := o3 (byt_of hR_clearTo_b0 (j := 28) rfl)
theorem dR_clearTo_29 : decode (mcc mR_clearTo) 29 = .ok (.ior, 1) := o128 (byt_of hR_clearTo_b0 (j := 29) rfl)
theorem dR_clearTo_30 : decode (mcc mR_clearTo) 30 = .ok (.istore_n 2, 1) := o61 (byt_of hR_clearTo_b0 (j := 30) rfl)
theorem dR_clearTo_31 : decode (mcc mR_clearTo) 31 = .ok (.iinc 3 1, 3) := o132 (a := 3) (b := 1) (byt_of hR_clearTo_b0 (j := 31) rfl) (byt_of hR_clearTo_b0 (j := 32) rfl) (byt_of hR_clearTo_b0 (j := 33) rfl) rfl
theorem dR_clearTo_34 : decode (mcc mR_clearTo) 34 = .ok (.goto (-30), 3) := o167 (a := 255) (b := 226) (byt_of hR_clearTo_b0 (j := 34) rfl) (byt_of hR_clearTo_b0 (j := 35) rfl) (byt_of hR_clearTo_b0 (j := 36) rfl) rfl
theorem dR_clearTo_37 : decode (mcc mR_clearTo) 37 = .ok (.iload_n 2, 1) := o28 (byt_of hR_clearTo_b0 (j := 37) rfl)
theorem dR_clearTo_38 : decode (mcc mR_clearTo) 38 = .ok (.ireturn, 1) := o172 (byt_of hR_clearTo_b0 (j := 38) rfl)
def bR_heard_b0 : List Nat := [42, 27, 182, 0, 243, 153, 0, 11, 42, 27, 182, 1, 21, 167, 0, 5, 16, 251, 172]
theorem hR_heard_b0 : BL (mcc mR_heard) 0 bR_heard_b0 := by decide +kernel
theorem dR_heard_0 : decode (mcc mR_heard) 0 = .ok (.aload_n 0, 1) := o42 (byt_of hR_heard_b0 (j := 0) rfl)
theorem dR_heard_1 : decode (mcc mR_heard) 1 = .ok (.iload_n 1, 1) := o27 (byt_of hR_heard_b0 (j := 1) rfl)
theorem dR_heard_2 : decode (mcc mR_heard) 2 = .ok (.invokevirtual 243, 3) := o182 (a := 0) (b := 243) (byt_of hR_heard_b0 (j := 2) rfl) (byt_of hR_heard_b0 (j := 3) rfl) (byt_of hR_heard_b0 (j := 4) rfl) rfl
theorem dR_heard_5 : decode (mcc mR_heard) 5 = .ok (.ifCond .eq 11, 3) := o153 (a := 0) (b := 11) (byt_of hR_heard_b0 (j := 5) rfl) (byt_of hR_heard_b0 (j := 6) rfl) (byt_of hR_heard_b0 (j := 7) rfl) rfl
theorem dR_heard_8 : decode (mcc mR_heard) 8 = .ok (.aload_n 0, 1) := o42 (byt_of hR_heard_b0 (j := 8) rfl)
theorem dR_heard_9 : decode (mcc mR_heard) 9 = .ok (.iload_n 1, 1) := o27 (byt_of hR_heard_b0 (j := 9) rfl)
theorem dR_heard_10 : decode (mcc mR_heard) 10 = .ok (.invokevirtual 277, 3) := o182 (a := 1) (b := 21) (byt_of hR_heard_b0 (j := 10) rfl) (byt_of hR_heard_b0 (j := 11) rfl) (byt_of hR_heard_b0 (j := 12) rfl) rfl
theorem dR_heard_13 : decode (mcc mR_heard) 13 = .ok (.goto 5, 3) := o167 (a := 0) (b := 5) (byt_of hR_heard_b0 (j := 13) rfl) (byt_of hR_heard_b0 (j := 14) rfl) (byt_of hR_heard_b0 (j := 15) rfl) rfl
theorem dR_heard_16 : decode (mcc mR_heard) 16 = .ok (.bipush (-5), 2) := o16 (a := 251) (byt_of hR_heard_b0 (j := 16) rfl) (byt_of hR_heard_b0 (j := 17) rfl) rfl
theorem dR_heard_18 : decode (mcc mR_heard) 18 = .ok (.ireturn, 1) := o172 (byt_of hR_heard_b0 (j := 18) rfl)
def bR_nobody_b0 : List Nat := [3, 60, 3, 61, 28, 42, 180, 0, 158, 162, 0, 27, 27, 42, 28, 182, 1, 21, 154, 0, 9, 4, 28, 120, 167, 0, 4, 3, 128, 60, 132, 2, 1, 167, 255, 227, 27, 172]
theorem hR_nobody_b0 : BL (mcc mR_nobody) 0 bR_nobody_b0 := by decide +kernel
theorem dR_nobody_0 : decode (mcc mR_nobody) 0 = .ok (.iconst 0, 1) := o3 (byt_of hR_nobody_b0 (j := 0) rfl)
theorem dR_nobody_1 : decode (mcc mR_nobody) 1 = .ok (.istore_n 1, 1) := o60 (byt_of hR_nobody_b0 (j := 1) rfl)
theorem dR_nobody_2 : decode (mcc mR_nobody) 2 = .ok (.iconst 0, 1) := o3 (byt_of hR_nobody_b0 (j := 2) rfl)
theorem dR_nobody_3 : decode (mcc mR_nobody) 3 = .ok (.istore_n 2, 1) := o61 (byt_of hR_nobody_b0 (j := 3) rfl)
theorem dR_nobody_4 : decode (mcc mR_nobody) 4 = .ok (.iload_n 2, 1) := o28 (byt_of hR_nobody_b0 (j := 4) rfl)
theorem dR_nobody_5 : decode (mcc mR_nobody) 5 = .ok (.aload_n 0, 1) := o42 (byt_of hR_nobody_b0 (j := 5) rfl)
theorem dR_nobody_6 : decode (mcc mR_nobody) 6 = .ok (.getfield 158, 3) := o180 (a := 0) (b := 158) (byt_of hR_nobody_b0 (j := 6) rfl) (byt_of hR_nobody_b0 (j := 7) rfl) (byt_of hR_nobody_b0 (j := 8) rfl) rfl
theorem dR_nobody_9 : decode (mcc mR_nobody) 9 = .ok (.if_icmp .ge 27, 3) := o162 (a := 0) (b := 27) (byt_of hR_nobody_b0 (j := 9) rfl) (byt_of hR_nobody_b0 (j := 10) rfl) (byt_of hR_nobody_b0 (j := 11) rfl) rfl
theorem dR_nobody_12 : decode (mcc mR_nobody) 12 = .ok (.iload_n 1, 1) := o27 (byt_of hR_nobody_b0 (j := 12) rfl)
theorem dR_nobody_13 : decode (mcc mR_nobody) 13 = .ok (.aload_n 0, 1) := o42 (byt_of hR_nobody_b0 (j := 13) rfl)
theorem dR_nobody_14 : decode (mcc mR_nobody) 14 = .ok (.iload_n 2, 1) := o28 (byt_of hR_nobody_b0 (j := 14) rfl)
theorem dR_nobody_15 : decode (mcc mR_nobody) 15 = .ok (.invokevirtual 277, 3) := o182 (a := 1) (b := 21) (byt_of hR_nobody_b0 (j := 15) rfl) (byt_of hR_nobody_b0 (j := 16) rfl) (byt_of hR_nobody_b0 (j := 17) rfl) rfl
theorem dR_nobody_18 : decode (mcc mR_nobody) 18 = .ok (.ifCond .ne 9, 3) := o154 (a := 0) (b := 9) (byt_of hR_nobody_b0 (j := 18) rfl) (byt_of hR_nobody_b0 (j := 19) rfl) (byt_of hR_nobody_b0 (j := 20) rfl) rfl
theorem dR_nobody_21 : decode (mcc mR_nobody) 21 = .ok (.iconst 1, 1) := o4 (byt_of hR_nobody_b0 (j := 21) rfl)
theorem dR_nobody_22 : decode (mcc mR_nobody) 22 = .ok (.iload_n 2, 1) := o28 (byt_of hR_nobody_b0 (j := 22) rfl)
theorem dR_nobody_23 : decode (mcc mR_nobody) 23 = .ok (.ishl, 1) := o120 (byt_of hR_nobody_b0 (j := 23) rfl)
theorem dR_nobody_24 : decode (mcc mR_nobody) 24 = .ok (.goto 4, 3) := o167 (a := 0) (b := 4) (byt_of hR_nobody_b0 (j := 24) rfl) (byt_of hR_nobody_b0 (j := 25) rfl) (byt_of hR_nobody_b0 (j := 26) rfl) rfl
theorem dR_nobody_27 : decode (mcc mR_nobody) 27 = .ok (.iconst 0, 1) := o3 (byt_of hR_nobody_b0 (j := 27) rfl)
theorem dR_nobody_28 : decode (mcc mR_nobody) 28 = .ok (.ior, 1) := o128 (byt_of hR_nobody_b0 (j := 28) rfl)
theorem dR_nobody_29 : decode (mcc mR_nobody) 29 = .ok (.istore_n 1, 1) := o60 (byt_of hR_nobody_b0 (j := 29) rfl)
theorem dR_nobody_30 : decode (mcc mR_nobody) 30 = .ok (.iinc 2 1, 3) := o132 (a := 2) (b := 1) (byt_of hR_nobody_b0 (j := 30) rfl) (byt_of hR_nobody_b0 (j := 31) rfl) (byt_of hR_nobody_b0 (j := 32) rfl) rfl
theorem dR_nobody_33 : decode (mcc mR_nobody) 33 = .ok (.goto (-29), 3) := o167 (a := 255) (b := 227) (byt_of hR_nobody_b0 (j := 33) rfl) (byt_of hR_nobody_b0 (j := 34) rfl) (byt_of hR_nobody_b0 (j := 35) rfl) rfl
theorem dR_nobody_36 : decode (mcc mR_nobody) 36 = .ok (.iload_n 1, 1) := o27 (byt_of hR_nobody_b0 (j := 36) rfl)
theorem dR_nobody_37 : decode (mcc mR_nobody) 37 = .ok (.ireturn, 1) := o172 (byt_of hR_nobody_b0 (j := 37) rfl)
def bR_can_b0 : List Nat := [42, 180, 0, 32, 27, 46, 42, 180, 0, 44, 28, 46, 122, 4, 126, 4, 160, 0, 7, 4, 167, 0, 4, 3, 172]
theorem hR_can_b0 : BL (mcc mR_can) 0 bR_can_b0 := by decide +kernel
theorem dR_can_0 : decode (mcc mR_can) 0 = .ok (.aload_n 0, 1) := o42 (byt_of hR_can_b0 (j := 0) rfl)
theorem dR_can_1 : decode (mcc mR_can) 1 = .ok (.getfield 32, 3) := o180 (a := 0) (b := 32) (byt_of hR_can_b0 (j := 1) rfl) (byt_of hR_can_b0 (j := 2) rfl) (byt_of hR_can_b0 (j := 3) rfl) rfl
theorem dR_can_4 : decode (mcc mR_can) 4 = .ok (.iload_n 1, 1) := o27 (byt_of hR_can_b0 (j := 4) rfl)
theorem dR_can_5 : decode (mcc mR_can) 5 = .ok (.iaload, 1) := o46 (byt_of hR_can_b0 (j := 5) rfl)
theorem dR_can_6 : decode (mcc mR_can) 6 = .ok (.aload_n 0, 1) := o42 (byt_of hR_can_b0 (j := 6) rfl)
theorem dR_can_7 : decode (mcc mR_can) 7 = .ok (.getfield 44, 3) := o180 (a := 0) (b := 44) (byt_of hR_can_b0 (j := 7) rfl) (byt_of hR_can_b0 (j := 8) rfl) (byt_of hR_can_b0 (j := 9) rfl) rfl
theorem dR_can_10 : decode (mcc mR_can) 10 = .ok (.iload_n 2, 1) := o28 (byt_of hR_can_b0 (j := 10) rfl)
theorem dR_can_11 : decode (mcc mR_can) 11 = .ok (.iaload, 1) := o46 (byt_of hR_can_b0 (j := 11) rfl)
theorem dR_can_12 : decode (mcc mR_can) 12 = .ok (.ishr, 1) := o122 (byt_of hR_can_b0 (j := 12) rfl)
theorem dR_can_13 : decode (mcc mR_can) 13 = .ok (.iconst 1, 1) := o4 (byt_of hR_can_b0 (j := 13) rfl)
theorem dR_can_14 : decode (mcc mR_can) 14 = .ok (.iand, 1) := o126 (byt_of hR_can_b0 (j := 14) rfl)
theorem dR_can_15 : decode (mcc mR_can) 15 = .ok (.iconst 1, 1) := o4 (byt_of hR_can_b0 (j := 15) rfl)
theorem dR_can_16 : decode (mcc mR_can) 16 = .ok (.if_icmp .ne 7, 3) := o160 (a := 0) (b := 7) (byt_of hR_can_b0 (j := 16) rfl) (byt_of hR_can_b0 (j := 17) rfl) (byt_of hR_can_b0 (j := 18) rfl) rfl
theorem dR_can_19 : decode (mcc mR_can) 19 = .ok (.iconst 1, 1) := o4 (byt_of hR_can_b0 (j := 19) rfl)
theorem dR_can_20 : decode (mcc mR_can) 20 = .ok (.goto 4, 3) := o167 (a := 0) (b := 4) (byt_of hR_can_b0 (j := 20) rfl) (byt_of hR_can_b0 (j := 21) rfl) (byt_of hR_can_b0 (j := 22) rfl) rfl
theorem dR_can_23 : decode (mcc mR_can) 23 = .ok (.iconst 0, 1) := o3 (byt_of hR_can_b0 (j := 23) rfl)
theorem dR_can_24 : decode (mcc mR_can) 24 = .ok (.ireturn, 1) := o172 (byt_of hR_can_b0 (j := 24) rfl)
def bR_ones_b0 : List Nat := [3, 60, 3, 61, 28, 16, 8, 162, 0, 17, 27, 26, 28, 122, 4, 126, 96, 60, 132, 2, 1, 167, 255, 239, 27, 172]
theorem hR_ones_b0 : BL (mcc mR_ones) 0 bR_ones_b0 := by decide +kernel
theorem dR_ones_0 : decode (mcc mR_ones) 0 = .ok (.iconst 0, 1) := o3 (byt_of hR_ones_b0 (j := 0) rfl)
theorem dR_ones_1 : decode (mcc mR_ones) 1 = .ok (.istore_n 1, 1) := o60 (byt_of hR_ones_b0 (j := 1) rfl)
theorem dR_ones_2 : decode (mcc mR_ones) 2 = .ok (.iconst 0, 1) := o3 (byt_of hR_ones_b0 (j := 2) rfl)
theorem dR_ones_3 : decode (mcc mR_ones) 3 = .ok (.istore_n 2, 1) := o61 (byt_of hR_ones_b0 (j := 3) rfl)
theorem dR_ones_4 : decode (mcc mR_ones) 4 = .ok (.iload_n 2, 1) := o28 (byt_of hR_ones_b0 (j := 4) rfl)
theorem dR_ones_5 : decode (mcc mR_ones) 5 = .ok (.bipush 8, 2) := o16 (a := 8) (byt_of hR_ones_b0 (j := 5) rfl) (byt_of hR_ones_b0 (j := 6) rfl) rfl
theorem dR_ones_7 : decode (mcc mR_ones) 7 = .ok (.if_icmp .ge 17, 3) := o162 (a := 0) (b := 17) (byt_of hR_ones_b0 (j := 7) rfl) (byt_of hR_ones_b0 (j := 8) rfl) (byt_of hR_ones_b0 (j := 9) rfl) rfl
theorem dR_ones_10 : decode (mcc mR_ones) 10 = .ok (.iload_n 1, 1) := o27 (byt_of hR_ones_b0 (j := 10) rfl)
theorem dR_ones_11 : decode (mcc mR_ones) 11 = .ok (.iload_n 0, 1) := o26 (byt_of hR_ones_b0 (j := 11) rfl)
theorem dR_ones_12 : decode (mcc mR_ones) 12 = .ok (.iload_n 2, 1) := o28 (byt_of hR_ones_b0 (j := 12) rfl)
theorem dR_ones_13 : decode (mcc mR_ones) 13 = .ok (.ishr, 1) := o122 (byt_of hR_ones_b0 (j := 13) rfl)
theorem dR_ones_14 : decode (mcc mR_ones) 14 = .ok (.iconst 1, 1) := o4 (byt_of hR_ones_b0 (j := 14) rfl)
theorem dR_ones_15 : decode (mcc mR_ones) 15 = .ok (.iand, 1) := o126 (byt_of hR_ones_b0 (j := 15) rfl)
theorem dR_ones_16 : decode (mcc mR_ones) 16 = .ok (.iadd, 1) := o96 (byt_of hR_ones_b0 (j := 16) rfl)
theorem dR_ones_17 : decode (mcc mR_ones) 17 = .ok (.istore_n 1, 1) := o60 (byt_of hR_ones_b0 (j := 17) rfl)
theorem dR_ones_18 : decode (mcc mR_ones) 18 = .ok (.iinc 2 1, 3) := o132 (a := 2) (b := 1) (byt_of hR_ones_b0 (j := 18) rfl) (byt_of hR_ones_b0 (j := 19) rfl) (byt_of hR_ones_b0 (j := 20) rfl) rfl
theorem dR_ones_21 : decode (mcc mR_ones) 21 = .ok (.goto (-17), 3) := o167 (a := 255) (b := 239) (byt_of hR_ones_b0 (j := 21) rfl) (byt_of hR_ones_b0 (j := 22) rfl) (byt_of hR_ones_b0 (j := 23) rfl) rfl
theorem dR_ones_24 : decode (mcc mR_ones) 24 = .ok (.iload_n 1, 1) := o27 (byt_of hR_ones_b0 (j := 24) rfl)
theorem dR_ones_25 : decode (mcc mR_ones) 25 = .ok (.ireturn, 1) := o172 (byt_of hR_ones_b0 (j := 25) rfl)
def bR_owesBy_b0 : List Nat := [42, 27, 182, 1, 21, 61, 28, 184, 1, 24, 62, 42, 180, 0, 56, 27, 46, 54, 4, 3, 54, 5, 21, 5, 42, 180, 0, 148, 162, 0, 128, 28, 21, 5, 122, 4, 126, 4, 160, 0, 112, 42, 180, 0, 20, 21, 5, 46, 7, 159, 0, 101, 42, 42, 180, 0, 65, 27, 46, 3, 3, 42, 180, 0, 47, 21, 4, 46, 29, 42, 21, 5, 21, 4, 182, 1, 27, 153, 0, 7, 4, 167, 0, 4, 3, 182, 0, 246, 42, 4, 182, 0, 250, 3, 16, 99, 184, 0, 253, 54, 6, 42]
theorem hR_owesBy_b0 : BL (mcc mR_owesBy) 0 bR_owesBy_b0 := by decide +kernel
theorem dR_owesBy_0 : decode (mcc mR_owesBy) 0 = .ok (.aload_n 0, 1) := o42 (byt_of hR_owesBy_b0 (j := 0) rfl)
theorem dR_owesBy_1 : decode (mcc mR_owesBy) 1 = .ok (.iload_n 1, 1) := o27 (byt_of hR_owesBy_b0 (j := 1) rfl)
theorem dR_owesBy_2 : decode (mcc mR_owesBy) 2 = .ok (.invokevirtual 277, 3) := o182 (a := 1) (b := 21) (byt_of hR_owesBy_b0 (j := 2) rfl) (byt_of hR_owesBy_b0 (j := 3) rfl) (byt_of hR_owesBy_b0 (j := 4) rfl) rfl
theorem dR_owesBy_5 : decode (mcc mR_owesBy) 5 = .ok (.istore_n 2, 1) := o61 (byt_of hR_owesBy_b0 (j := 5) rfl)
theorem dR_owesBy_6 : decode (mcc mR_owesBy) 6 = .ok (.iload_n 2, 1) := o28 (byt_of hR_owesBy_b0 (j := 6) rfl)
theorem dR_owesBy_7 : decode (mcc mR_owesBy) 7 = .ok (.invokestatic 280, 3) := o184 (a := 1) (b := 24) (byt_of hR_owesBy_b0 (j := 7) rfl) (byt_of hR_owesBy_b0 (j := 8) rfl) (byt_of hR_owesBy_b0 (j := 9) rfl) rfl
theorem dR_owesBy_10 : decode (mcc mR_owesBy) 10 = .ok (.istore_n 3, 1) := o62 (byt_of hR_owesBy_b0 (j := 10) rfl)
theorem dR_owesBy_11 : decode (mcc mR_owesBy) 11 = .ok (.aload_n 0, 1) := o42 (byt_of hR_owesBy_b0 (j := 11) rfl)
theorem dR_owesBy_12 : decode (mcc mR_owesBy) 12 = .ok (.getfield 56, 3) := o180 (a := 0) (b := 56) (byt_of hR_owesBy_b0 (j := 12) rfl) (byt_of hR_owesBy_b0 (j := 13) rfl) (byt_of hR_owesBy_b0 (j := 14) rfl) rfl
theorem dR_owesBy_15 : decode (mcc mR_owesBy) 15 = .ok (.iload_n 1, 1) := o27 (byt_of hR_owesBy_b0 (j := 15) rfl)
theorem dR_owesBy_16 : decode (mcc mR_owesBy) 16 = .ok (.iaload, 1) := o46 (byt_of hR_owesBy_b0 (j := 16) rfl)
theorem dR_owesBy_17 : decode (mcc mR_owesBy) 17 = .ok (.istore 4, 2) := o54 (a := 4) (byt_of hR_owesBy_b0 (j := 17) rfl) (byt_of hR_owesBy_b0 (j := 18) rfl)
theorem dR_owesBy_19 : decode (mcc mR_owesBy) 19 = .ok (.iconst 0, 1) := o3 (byt_of hR_owesBy_b0 (j := 19) rfl)
theorem dR_owesBy_20 : decode (mcc mR_owesBy) 20 = .ok (.istore 5, 2) := o54 (a := 5) (byt_of hR_owesBy_b0 (j := 20) rfl) (byt_of hR_owesBy_b0 (j := 21) rfl)
theorem dR_owesBy_22 : decode (mcc mR_owesBy) 22 = .ok (.iload 5, 2) := o21 (a := 5) (byt_of hR_owesBy_b0 (j := 22) rfl) (byt_of hR_owesBy_b0 (j := 23) rfl)
theorem dR_owesBy_24 : decode (mcc mR_owesBy) 24 = .ok (.aload_n 0, 1) := o42 (byt_of hR_owesBy_b0 (j := 24) rfl)
theorem dR_owesBy_25 : decode (mcc mR_owesBy) 25 = .ok (.getfield 148, 3) := o180 (a := 0) (b := 148) (byt_of hR_owesBy_b0 (j := 25) rfl) (byt_of hR_owesBy_b0 (j := 26) rfl) (byt_of hR_owesBy_b0 (j := 27) rfl) rfl
theorem dR_owesBy_28 : decode (mcc mR_owesBy) 28 = .ok (.if_icmp .ge 128, 3) := o162 (a := 0) (b := 128) (byt_of hR_owesBy_b0 (j := 28) rfl) (byt_of hR_owesBy_b0 (j := 29) rfl) (byt_of hR_owesBy_b0 (j := 30) rfl) rfl
theorem dR_owesBy_31 : decode (mcc mR_owesBy) 31 = .ok (.iload_n 2, 1) := o28 (byt_of hR_owesBy_b0 (j := 31) rfl)
theorem dR_owesBy_32 : decode (mcc mR_owesBy) 32 = .ok (.iload 5, 2) := o21 (a := 5) (byt_of hR_owesBy_b0 (j := 32) rfl) (byt_of hR_owesBy_b0 (j := 33) rfl)
theorem dR_owesBy_34 : decode (mcc mR_owesBy) 34 = .ok (.ishr, 1) := o122 (byt_of hR_owesBy_b0 (j := 34) rfl)
theorem dR_owesBy_35 : decode (mcc mR_owesBy) 35 = .ok (.iconst 1, 1) := o4 (byt_of hR_owesBy_b0 (j := 35) rfl)
theorem dR_owesBy_36 : decode (mcc mR_owesBy) 36 = .ok (.iand, 1) := o126 (byt_of hR_owesBy_b0 (j := 36) rfl)
theorem dR_owesBy_37 : decode (mcc mR_owesBy) 37 = .ok (.iconst 1, 1) := o4 (byt_of hR_owesBy_b0 (j := 37) rfl)
theorem dR_owesBy_38 : decode (mcc mR_owesBy) 38 = .ok (.if_icmp .ne 112, 3) := o160 (a := 0) (b := 112) (byt_of hR_owesBy_b0 (j := 38) rfl) (byt_of hR_owesBy_b0 (j := 39) rfl) (byt_of hR_owesBy_b0 (j := 40) rfl) rfl
theorem dR_owesBy_41 : decode (mcc mR_owesBy) 41 = .ok (.aload_n 0, 1) := o42 (byt_of hR_owesBy_b0 (j := 41) rfl)
theorem dR_owesBy_42 : decode (mcc mR_owesBy) 42 = .ok (.getfield 20, 3) := o180 (a := 0) (b := 20) (byt_of hR_owesBy_b0 (j := 42) rfl) (byt_of hR_owesBy_b0 (j := 43) rfl) (byt_of hR_owesBy_b0 (j := 44) rfl) rfl
theorem dR_owesBy_45 : decode (mcc mR_owesBy) 45 = .ok (.iload 5, 2) := o21 (a := 5) (byt_of hR_owesBy_b0 (j := 45) rfl) (byt_of hR_owesBy_b0 (j := 46) rfl)
theorem dR_owesBy_47 : decode (mcc mR_owesBy) 47 = .ok (.iaload, 1) := o46 (byt_of hR_owesBy_b0 (j := 47) rfl)
theorem dR_owesBy_48 : decode (mcc mR_owesBy) 48 = .ok (.iconst 4, 1) := o7 (byt_of hR_owesBy_b0 (j := 48) rfl)
theorem dR_owesBy_49 : decode (mcc mR_owesBy) 49 = .ok (.if_icmp .eq 101, 3) := o159 (a := 0) (b := 101) (byt_of hR_owesBy_b0 (j := 49) rfl) (byt_of hR_owesBy_b0 (j := 50) rfl) (byt_of hR_owesBy_b0 (j := 51) rfl) rfl
theorem dR_owesBy_52 : decode (mcc mR_owesBy) 52 = .ok (.aload_n 0, 1) := o42 (byt_of hR_owesBy_b0 (j := 52) rfl)
theorem dR_owesBy_53 : decode (mcc mR_owesBy) 53 = .ok (.aload_n 0, 1) := o42 (byt_of hR_owesBy_b0 (j := 53) rfl)
theorem dR_owesBy_54 : decode (mcc mR_owesBy) 54 = .ok (.getfield 65, 3) := o180 (a := 0) (b := 65) (byt_of hR_owesBy_b0 (j := 54) rfl) (byt_of hR_owesBy_b0 (j := 55) rfl) (byt_of hR_owesBy_b0 (j := 56) rfl) rfl
theorem dR_owesBy_57 : decode (mcc mR_owesBy) 57 = .ok (.iload_n 1, 1) := o27 (byt_of hR_owesBy_b0 (j := 57) rfl)
theorem dR_owesBy_58 : decode (mcc mR_owesBy) 58 = .ok (.iaload, 1) := o46 (byt_of hR_owesBy_b0 (j := 58) rfl)
theorem dR_owesBy_59 : decode (mcc mR_owesBy) 59 = .ok (.iconst 0, 1) := o3 (byt_of hR_owesBy_b0 (j := 59) rfl)
theorem dR_owesBy_60 : decode (mcc mR_owesBy) 60 = .ok (.iconst 0, 1) := o3 (byt_of hR_owesBy_b0 (j := 60) rfl)
theorem dR_owesBy_61 : decode (mcc mR_owesBy) 61 = .ok (.aload_n 0, 1) := o42 (byt_of hR_owesBy_b0 (j := 61) rfl)
theorem dR_owesBy_62 : decode (mcc mR_owesBy) 62 = .ok (.getfield 47, 3) := o180 (a := 0) (b := 47) (byt_of hR_owesBy_b0 (j := 62) rfl) (byt_of hR_owesBy_b0 (j := 63) rfl) (byt_of hR_owesBy_b0 (j := 64) rfl) rfl
theorem dR_owesBy_65 : decode (mcc mR_owesBy) 65 = .ok (.iload 4, 2) := o21 (a := 4) (byt_of hR_owesBy_b0 (j := 65) rfl) (byt_of hR_owesBy_b0 (j := 66) rfl)
theorem dR_owesBy_67 : decode (mcc mR_owesBy) 67 = .ok (.iaload, 1) := o46 (byt_of hR_owesBy_b0 (j := 67) rfl)
theorem dR_owesBy_68 : decode (mcc mR_owesBy) 68 = .ok (.iload_n 3, 1) := o29 (byt_of hR_owesBy_b0 (j := 68) rfl)
theorem dR_owesBy_69 : decode (mcc mR_owesBy) 69 = .ok (.aload_n 0, 1) := o42 (byt_of hR_owesBy_b0 (j := 69) rfl)
theorem dR_owesBy_70 : decode (mcc mR_owesBy) 70 = .ok (.iload 5, 2) := o21 (a := 5) (byt_of hR_owesBy_b0 (j := 70) rfl) (byt_of hR_owesBy_b0 (j := 71) rfl)
theorem dR_owesBy_72 : decode (mcc mR_owesBy) 72 = .ok (.iload 4, 2) := o21 (a := 4) (byt_of hR_owesBy_b0 (j := 72) rfl) (byt_of hR_owesBy_b0 (j := 73) rfl)
theorem dR_owesBy_74 : decode (mcc mR_owesBy) 74 = .ok (.invokevirtual 283, 3) := o182 (a := 1) (b := 27) (byt_of hR_owesBy_b0 (j := 74) rfl) (byt_of hR_owesBy_b0 (j := 75) rfl) (byt_of hR_owesBy_b0 (j := 76) rfl) rfl
theorem dR_owesBy_77 : decode (mcc mR_owesBy) 77 = .ok (.ifCond .eq 7, 3) := o153 (a := 0) (b := 7) (byt_of hR_owesBy_b0 (j := 77) rfl) (byt_of hR_owesBy_b0 (j := 78) rfl) (byt_of hR_owesBy_b0 (j := 79) rfl) rfl
theorem dR_owesBy_80 : decode (mcc mR_owesBy) 80 = .ok (.iconst 1, 1) := o4 (byt_of hR_owesBy_b0 (j := 80) rfl)
theorem dR_owesBy_81 : decode (mcc mR_owesBy) 81 = .ok (.goto 4, 3) := o167 (a := 0) (b := 4) (byt_of hR_owesBy_b0 (j := 81) rfl) (byt_of hR_owesBy_b0 (j := 82) rfl) (byt_of hR_owesBy_b0 (j := 83) rfl) rfl
theorem dR_owesBy_84 : decode (mcc mR_owesBy) 84 = .ok (.iconst 0, 1) := o3 (byt_of hR_owesBy_b0 (j := 84) rfl)
theorem dR_owesBy_85 : decode (mcc mR_owesBy) 85 = .ok (.invokevirtual 246, 3) := o182 (a := 0) (b := 246) (byt_of hR_owesBy_b0 (j := 85) rfl) (byt_of hR_owesBy_b0 (j := 86) rfl) (byt_of hR_owesBy_b0 (j := 87) rfl) rfl
theorem dR_owesBy_88 : decode (mcc mR_owesBy) 88 = .ok (.aload_n 0, 1) := o42 (byt_of hR_owesBy_b0 (j := 88) rfl)
theorem dR_owesBy_89 : decode (mcc mR_owesBy) 89 = .ok (.iconst 1, 1) := o4 (byt_of hR_owesBy_b0 (j := 89) rfl)
theorem dR_owesBy_90 : decode (mcc mR_owesBy) 90 = .ok (.invokevirtual 250, 3) := o182 (a := 0) (b := 250) (byt_of hR_owesBy_b0 (j := 90) rfl) (byt_of hR_owesBy_b0 (j := 91) rfl) (byt_of hR_owesBy_b0 (j := 92) rfl) rfl
theorem dR_owesBy_93 : decode (mcc mR_owesBy) 93 = .ok (.iconst 0, 1) := o3 (byt_of hR_owesBy_b0 (j := 93) rfl)
theorem dR_owesBy_94 : decode (mcc mR_owesBy) 94 = .ok (.bipush 99, 2) := o16 (a := 99) (byt_of hR_owesBy_b0 (j := 94) rfl) (byt_of hR_owesBy_b0 (j := 95) rfl) rfl
def bR_owesBy_b1 : List Nat := [184, 0, 253, 54, 6, 42, 180, 0, 122, 16, 8, 21, 5, 104, 21, 4, 96, 21, 6, 42, 180, 0, 122, 16, 8, 21, 5, 104, 21, 4, 96, 46, 164, 0, 8, 21, 6, 167, 0, 16, 42, 180, 0, 122, 16, 8, 21, 5, 104, 21, 4, 96, 46, 79, 132, 5, 1, 167, 255, 125, 177]
theorem hR_owesBy_b1 : BL (mcc mR_owesBy) 96 bR_owesBy_b1 := by decide +kernel
theorem dR_owesBy_96 : decode (mcc mR_owesBy) 96 = .ok (.invokestatic 253, 3) := o184 (a := 0) (b := 253) (byt_of hR_owesBy_b1 (j := 0) rfl) (byt_of hR_owesBy_b1 (j := 1) rfl) (byt_of hR_owesBy_b1 (j := 2) rfl) rfl
theorem dR_owesBy_99 : decode (mcc mR_owesBy) 99 = .ok (.istore 6, 2) := o54 (a := 6) (byt_of hR_owesBy_b1 (j := 3) rfl) (byt_of hR_owesBy_b1 (j := 4) rfl)
theorem dR_owesBy_101 : decode (mcc mR_owesBy) 101 = .ok (.aload_n 0, 1) := o42 (byt_of hR_owesBy_b1 (j := 5) rfl)
theorem dR_owesBy_102 : decode (mcc mR_owesBy) 102 = .ok (.getfield 122, 3) := o180 (a := 0) (b := 122) (byt_of hR_owesBy_b1 (j := 6) rfl) (byt_of hR_owesBy_b1 (j := 7) rfl) (byt_of hR_owesBy_b1 (j := 8) rfl) rfl
theorem dR_owesBy_105 : decode (mcc mR_owesBy) 105 = .ok (.bipush 8, 2) := o16 (a := 8) (byt_of hR_owesBy_b1 (j := 9) rfl) (byt_of hR_owesBy_b1 (j := 10) rfl) rfl
theorem dR_owesBy_107 : decode (mcc mR_owesBy) 107 = .ok (.iload 5, 2) := o21 (a := 5) (byt_of hR_owesBy_b1 (j := 11) rfl) (byt_of hR_owesBy_b1 (j := 12) rfl)
theorem dR_owesBy_109 : decode (mcc mR_owesBy) 109 = .ok (.imul, 1) := o104 (byt_of hR_owesBy_b1 (j := 13) rfl)
theorem dR_owesBy_110 : decode (mcc mR_owesBy) 110 = .ok (.iload 4, 2) := o21 (a := 4) (byt_of hR_owesBy_b1 (j := 14) rfl) (byt_of hR_owesBy_b1 (j := 15) rfl)
theorem dR_owesBy_112 : decode (mcc mR_owesBy) 112 = .ok (.iadd, 1) := o96 (byt_of hR_owesBy_b1 (j := 16) rfl)
theorem dR_owesBy_113 : decode (mcc mR_owesBy) 113 = .ok (.iload 6, 2) := o21 (a := 6) (byt_of hR_owesBy_b1 (j := 17) rfl) (byt_of hR_owesBy_b1 (j := 18) rfl)
theorem dR_owesBy_115 : decode (mcc mR_owesBy) 115 = .ok (.aload_n 0, 1) := o42 (byt_of hR_owesBy_b1 (j := 19) rfl)
theorem dR_owesBy_116 : decode (mcc mR_owesBy) 116 = .ok (.getfield 122, 3) := o180 (a := 0) (b := 122) (byt_of hR_owesBy_b1 (j := 20) rfl) (byt_of hR_owesBy_b1 (j := 21) rfl) (byt_of hR_owesBy_b1 (j := 22) rfl) rfl
theorem dR_owesBy_119 : decode (mcc mR_owesBy) 119 = .ok (.bipush 8, 2) := o16 (a := 8) (byt_of hR_owesBy_b1 (j := 23) rfl) (byt_of hR_owesBy_b1 (j := 24) rfl) rfl
theorem dR_owesBy_121 : decode (mcc mR_owesBy) 121 = .ok (.iload 5, 2) := o21 (a := 5) (byt_of hR_owesBy_b1 (j := 25) rfl) (byt_of hR_owesBy_b1 (j := 26) rfl)
theorem dR_owesBy_123 : decode (mcc mR_owesBy) 123 = .ok (.imul, 1) := o104 (byt_of hR_owesBy_b1 (j := 27) rfl)
theorem dR_owesBy_124 : decode (mcc mR_owesBy) 124 = .ok (.iload 4, 2) := o21 (a := 4) (byt_of hR_owesBy_b1 (j := 28) rfl) (byt_of hR_owesBy_b1 (j := 29) rfl)
theorem dR_owesBy_126 : decode (mcc mR_owesBy) 126 = .ok (.iadd, 1) := o96 (byt_of hR_owesBy_b1 (j := 30) rfl)
theorem dR_owesBy_127 : decode (mcc mR_owesBy) 127 = .ok (.iaload, 1) := o46 (byt_of hR_owesBy_b1 (j := 31) rfl)
theorem dR_owesBy_128 : decode (mcc mR_owesBy) 128 = .ok (.if_icmp .le 8, 3) := o164 (a := 0) (b := 8) (byt_of hR_owesBy_b1 (j := 32) rfl) (byt_of hR_owesBy_b1 (j := 33) rfl) (byt_of hR_owesBy_b1 (j := 34) rfl) rfl
theorem dR_owesBy_131 : decode (mcc mR_owesBy) 131 = .ok (.iload 6, 2) := o21 (a := 6) (byt_of hR_owesBy_b1 (j := 35) rfl) (byt_of hR_owesBy_b1 (j := 36) rfl)
theorem dR_owesBy_133 : decode (mcc mR_owesBy) 133 = .ok (.goto 16, 3) := o167 (a := 0) (b := 16) (byt_of hR_owesBy_b1 (j := 37) rfl) (byt_of hR_owesBy_b1 (j := 38) rfl) (byt_of hR_owesBy_b1 (j := 39) rfl) rfl
theorem dR_owesBy_136 : decode (mcc mR_owesBy) 136 = .ok (.aload_n 0, 1) := o42 (byt_of hR_owesBy_b1 (j := 40) rfl)
theorem dR_owesBy_137 : decode (mcc mR_owesBy) 137 = .ok (.getfield 122, 3) := o180 (a := 0) (b := 122) (byt_of hR_owesBy_b1 (j := 41) rfl) (byt_of hR_owesBy_b1 (j := 42) rfl) (byt_of hR_owesBy_b1 (j := 43) rfl) rfl
theorem dR_owesBy_140 : decode (mcc mR_owesBy) 140 = .ok (.bipush 8, 2) := o16 (a := 8) (byt_of hR_owesBy_b1 (j := 44) rfl) (byt_of hR_owesBy_b1 (j := 45) rfl) rfl
theorem dR_owesBy_142 : decode (mcc mR_owesBy) 142 = .ok (.iload 5, 2) := o21 (a := 5) (byt_of hR_owesBy_b1 (j := 46) rfl) (byt_of hR_owesBy_b1 (j := 47) rfl)
theorem dR_owesBy_144 : decode (mcc mR_owesBy) 144 = .ok (.imul, 1) := o104 (byt_of hR_owesBy_b1 (j := 48) rfl)
theorem dR_owesBy_145 : decode (mcc mR_owesBy) 145 = .ok (.iload 4, 2) := o21 (a := 4) (byt_of hR_owesBy_b1 (j := 49) rfl) (byt_of hR_owesBy_b1 (j := 50) rfl)
theorem dR_owesBy_147 : decode (mcc mR_owesBy) 147 = .ok (.iadd, 1) := o96 (byt_of hR_owesBy_b1 (j := 51) rfl)
theorem dR_owesBy_148 : decode (mcc mR_owesBy) 148 = .ok (.iaload, 1) := o46 (byt_of hR_owesBy_b1 (j := 52) rfl)
theorem dR_owesBy_149 : decode (mcc mR_owesBy) 149 = .ok (.iastore, 1) := o79 (byt_of hR_owesBy_b1 (j := 53) rfl)
theorem dR_owesBy_150 : decode (mcc mR_owesBy) 150 = .ok (.iinc 5 1, 3) := o132 (a := 5) (b := 1) (byt_of hR_owesBy_b1 (j := 54) rfl) (byt_of hR_owesBy_b1 (j := 55) rfl) (byt_of hR_owesBy_b1 (j := 56) rfl) rfl
theorem dR_owesBy_153 : decode (mcc mR_owesBy) 153 = .ok (.goto (-131), 3) := o167 (a := 255) (b := 125) (byt_of hR_owesBy_b1 (j := 57) rfl) (byt_of hR_owesBy_b1 (j := 58) rfl) (byt_of hR_owesBy_b1 (j := 59) rfl) rfl
theorem dR_owesBy_156 : decode (mcc mR_owesBy) 156 = .ok (.return_, 1) := o177 (byt_of hR_owesBy_b1 (j := 60) rfl)
def bR_strikes_b0 : List Nat := [42, 180, 0, 53, 27, 46, 61, 3, 62, 29, 42, 180, 0, 148, 162, 0, 109, 28, 2, 159, 0, 104, 42, 180, 0, 122, 16, 8, 29, 104, 27, 96, 46, 42, 180, 0, 122, 16, 8, 29, 104, 28, 96, 46, 162, 0, 17, 42, 180, 0, 122, 16, 8, 29, 104, 27, 96, 46, 167, 0, 14, 42, 180, 0, 122, 16, 8, 29, 104, 28, 96, 46, 54, 4, 42, 180, 0, 122, 16, 8, 29, 104, 27, 96, 92, 46, 21, 4, 100, 79, 42, 180, 0, 122, 16, 8, 29, 104, 28, 96, 92, 46]
theorem hR_strikes_b0 : BL (mcc mR_strikes) 0 bR_strikes_b0 := by decide +kernel
theorem dR_strikes_0 : decode (mcc mR_strikes) 0 = .ok (.aload_n 0, 1) := o42 (byt_of hR_strikes_b0 (j := 0) rfl)
theorem dR_strikes_1 : decode (mcc mR_strikes) 1 = .ok (.getfield 53, 3) := o180 (a := 0) (b := 53) (byt_of hR_strikes_b0 (j := 1) rfl) (byt_of hR_strikes_b0 (j := 2) rfl) (byt_of hR_strikes_b0 (j := 3) rfl) rfl
theorem dR_strikes_4 : decode (mcc mR_strikes) 4 = .ok (.iload_n 1, 1) := o27 (byt_of hR_strikes_b0 (j := 4) rfl)
theorem dR_strikes_5 : decode (mcc mR_strikes) 5 = .ok (.iaload, 1) := o46 (byt_of hR_strikes_b0 (j := 5) rfl)
theorem dR_strikes_6 : decode (mcc mR_strikes) 6 = .ok (.istore_n 2, 1) := o61 (byt_of hR_strikes_b0 (j := 6) rfl)
theorem dR_strikes_7 : decode (mcc mR_strikes) 7 = .ok (.iconst 0, 1) := o3 (byt_of hR_strikes_b0 (j := 7) rfl)
theorem dR_strikes_8 : decode (mcc mR_strikes) 8 = .ok (.istore_n 3, 1) := o62 (byt_of hR_strikes_b0 (j := 8) rfl)
theorem dR_strikes_9 : decode (mcc mR_strikes) 9 = .ok (.iload_n 3, 1) := o29 (byt_of hR_strikes_b0 (j := 9) rfl)
theorem dR_strikes_10 : decode (mcc mR_strikes) 10 = .ok (.aload_n 0, 1) := o42 (byt_of hR_strikes_b0 (j := 10) rfl)
theorem dR_strikes_11 : decode (mcc mR_strikes) 11 = .ok (.getfield 148, 3) := o180 (a := 0) (b := 148) (byt_of hR_strikes_b0 (j := 11) rfl) (byt_of hR_strikes_b0 (j := 12) rfl) (byt_of hR_strikes_b0 (j := 13) rfl) rfl
theorem dR_strikes_14 : decode (mcc mR_strikes) 14 = .ok (.if_icmp .ge 109, 3) := o162 (a := 0) (b := 109) (byt_of hR_strikes_b0 (j := 14) rfl) (byt_of hR_strikes_b0 (j := 15) rfl) (byt_of hR_strikes_b0 (j := 16) rfl) rfl
theorem dR_strikes_17 : decode (mcc mR_strikes) 17 = .ok (.iload_n 2, 1) := o28 (byt_of hR_strikes_b0 (j := 17) rfl)
theorem dR_strikes_18 : decode (mcc mR_strikes) 18 = .ok (.iconst (-1), 1) := o2 (byt_of hR_strikes_b0 (j := 18) rfl)
theorem dR_strikes_19 : decode (mcc mR_strikes) 19 = .ok (.if_icmp .eq 104, 3) := o159 (a := 0) (b := 104) (byt_of hR_strikes_b0 (j := 19) rfl) (byt_of hR_strikes_b0 (j := 20) rfl) (byt_of hR_strikes_b0 (j := 21) rfl) rfl
theorem dR_strikes_22 : decode (mcc mR_strikes) 22 = .ok (.aload_n 0, 1) := o42 (byt_of hR_strikes_b0 (j := 22) rfl)
theorem dR_strikes_23 : decode (mcc mR_strikes) 23 = .ok (.getfield 122, 3) := o180 (a := 0) (b := 122) (byt_of hR_strikes_b0 (j := 23) rfl) (byt_of hR_strikes_b0 (j := 24) rfl) (byt_of hR_strikes_b0 (j := 25) rfl) rfl
theorem dR_strikes_26 : decode (mcc mR_strikes) 26 = .ok (.bipush 8, 2) := o16 (a := 8) (byt_of hR_strikes_b0 (j := 26) rfl) (byt_of hR_strikes_b0 (j := 27) rfl) rfl
theorem dR_strikes_28 : decode (mcc mR_strikes) 28 = .ok (.iload_n 3, 1) := o29 (byt_of hR_strikes_b0 (j := 28) rfl)
theorem dR_strikes_29 : decode (mcc mR_strikes) 29 = .ok (.imul, 1) := o104 (byt_of hR_strikes_b0 (j := 29) rfl)
theorem dR_strikes_30 : decode (mcc mR_strikes) 30 = .ok (.iload_n 1, 1) := o27 (byt_of hR_strikes_b0 (j := 30) rfl)
theorem dR_strikes_31 : decode (mcc mR_strikes) 31 = .ok (.iadd, 1) := o96 (byt_of hR_strikes_b0 (j := 31) rfl)
theorem dR_strikes_32 : decode (mcc mR_strikes) 32 = .ok (.iaload, 1) := o46 (byt_of hR_strikes_b0 (j := 32) rfl)
theorem dR_strikes_33 : decode (mcc mR_strikes) 33 = .ok (.aload_n 0, 1) := o42 (byt_of hR_strikes_b0 (j := 33) rfl)
theorem dR_strikes_34 : decode (mcc mR_strikes) 34 = .ok (.getfield 122, 3) := o180 (a := 0) (b := 122) (byt_of hR_strikes_b0 (j := 34) rfl) (byt_of hR_strikes_b0 (j := 35) rfl) (byt_of hR_strikes_b0 (j := 36) rfl) rfl
theorem dR_strikes_37 : decode (mcc mR_strikes) 37 = .ok (.bipush 8, 2) := o16 (a := 8) (byt_of hR_strikes_b0 (j := 37) rfl) (byt_of hR_strikes_b0 (j := 38) rfl) rfl
theorem dR_strikes_39 : decode (mcc mR_strikes) 39 = .ok (.iload_n 3, 1) := o29 (byt_of hR_strikes_b0 (j := 39) rfl)
theorem dR_strikes_40 : decode (mcc mR_strikes) 40 = .ok (.imul, 1) := o104 (byt_of hR_strikes_b0 (j := 40) rfl)
theorem dR_strikes_41 : decode (mcc mR_strikes) 41 = .ok (.iload_n 2, 1) := o28 (byt_of hR_strikes_b0 (j := 41) rfl)
theorem dR_strikes_42 : decode (mcc mR_strikes) 42 = .ok (.iadd, 1) := o96 (byt_of hR_strikes_b0 (j := 42) rfl)
theorem dR_strikes_43 : decode (mcc mR_strikes) 43 = .ok (.iaload, 1) := o46 (byt_of hR_strikes_b0 (j := 43) rfl)
theorem dR_strikes_44 : decode (mcc mR_strikes) 44 = .ok (.if_icmp .ge 17, 3) := o162 (a := 0) (b := 17) (byt_of hR_strikes_b0 (j := 44) rfl) (byt_of hR_strikes_b0 (j := 45) rfl) (byt_of hR_strikes_b0 (j := 46) rfl) rfl
theorem dR_strikes_47 : decode (mcc mR_strikes) 47 = .ok (.aload_n 0, 1) := o42 (byt_of hR_strikes_b0 (j := 47) rfl)
theorem dR_strikes_48 : decode (mcc mR_strikes) 48 = .ok (.getfield 122, 3) := o180 (a := 0) (b := 122) (byt_of hR_strikes_b0 (j := 48) rfl) (byt_of hR_strikes_b0 (j := 49) rfl) (byt_of hR_strikes_b0 (j := 50) rfl) rfl
theorem dR_strikes_51 : decode (mcc mR_strikes) 51 = .ok (.bipush 8, 2) := o16 (a := 8) (byt_of hR_strikes_b0 (j := 51) rfl) (byt_of hR_strikes_b0 (j := 52) rfl) rfl
theorem dR_strikes_53 : decode (mcc mR_strikes) 53 = .ok (.iload_n 3, 1) := o29 (byt_of hR_strikes_b0 (j := 53) rfl)
theorem dR_strikes_54 : decode (mcc mR_strikes) 54 = .ok (.imul, 1) := o104 (byt_of hR_strikes_b0 (j := 54) rfl)
theorem dR_strikes_55 : decode (mcc mR_strikes) 55 = .ok (.iload_n 1, 1) := o27 (byt_of hR_strikes_b0 (j := 55) rfl)
theorem dR_strikes_56 : decode (mcc mR_strikes) 56 = .ok (.iadd, 1) := o96 (byt_of hR_strikes_b0 (j := 56) rfl)
theorem dR_strikes_57 : decode (mcc mR_strikes) 57 = .ok (.iaload, 1) := o46 (byt_of hR_strikes_b0 (j := 57) rfl)
theorem dR_strikes_58 : decode (mcc mR_strikes) 58 = .ok (.goto 14, 3) := o167 (a := 0) (b := 14) (byt_of hR_strikes_b0 (j := 58) rfl) (byt_of hR_strikes_b0 (j := 59) rfl) (byt_of hR_strikes_b0 (j := 60) rfl) rfl
theorem dR_strikes_61 : decode (mcc mR_strikes) 61 = .ok (.aload_n 0, 1) := o42 (byt_of hR_strikes_b0 (j := 61) rfl)
theorem dR_strikes_62 : decode (mcc mR_strikes) 62 = .ok (.getfield 122, 3) := o180 (a := 0) (b := 122) (byt_of hR_strikes_b0 (j := 62) rfl) (byt_of hR_strikes_b0 (j := 63) rfl) (byt_of hR_strikes_b0 (j := 64) rfl) rfl
theorem dR_strikes_65 : decode (mcc mR_strikes) 65 = .ok (.bipush 8, 2) := o16 (a := 8) (byt_of hR_strikes_b0 (j := 65) rfl) (byt_of hR_strikes_b0 (j := 66) rfl) rfl
theorem dR_strikes_67 : decode (mcc mR_strikes) 67 = .ok (.iload_n 3, 1) := o29 (byt_of hR_strikes_b0 (j := 67) rfl)
theorem dR_strikes_68 : decode (mcc mR_strikes) 68 = .ok (.imul, 1) := o104 (byt_of hR_strikes_b0 (j := 68) rfl)
theorem dR_strikes_69 : decode (mcc mR_strikes) 69 = .ok (.iload_n 2, 1) := o28 (byt_of hR_strikes_b0 (j := 69) rfl)
theorem dR_strikes_70 : decode (mcc mR_strikes) 70 = .ok (.iadd, 1) := o96 (byt_of hR_strikes_b0 (j := 70) rfl)
theorem dR_strikes_71 : decode (mcc mR_strikes) 71 = .ok (.iaload, 1) := o46 (byt_of hR_strikes_b0 (j := 71) rfl)
theorem dR_strikes_72 : decode (mcc mR_strikes) 72 = .ok (.istore 4, 2) := o54 (a := 4) (byt_of hR_strikes_b0 (j := 72) rfl) (byt_of hR_strikes_b0 (j := 73) rfl)
theorem dR_strikes_74 : decode (mcc mR_strikes) 74 = .ok (.aload_n 0, 1) := o42 (byt_of hR_strikes_b0 (j := 74) rfl)
theorem dR_strikes_75 : decode (mcc mR_strikes) 75 = .ok (.getfield 122, 3) := o180 (a := 0) (b := 122) (byt_of hR_strikes_b0 (j := 75) rfl) (byt_of hR_strikes_b0 (j := 76) rfl) (byt_of hR_strikes_b0 (j := 77) rfl) rfl
theorem dR_strikes_78 : decode (mcc mR_strikes) 78 = .ok (.bipush 8, 2) := o16 (a := 8) (byt_of hR_strikes_b0 (j := 78) rfl) (byt_of hR_strikes_b0 (j := 79) rfl) rfl
theorem dR_strikes_80 : decode (mcc mR_strikes) 80 = .ok (.iload_n 3, 1) := o29 (byt_of hR_strikes_b0 (j := 80) rfl)
theorem dR_strikes_81 : decode (mcc mR_strikes) 81 = .ok (.imul, 1) := o104 (byt_of hR_strikes_b0 (j := 81) rfl)
theorem dR_strikes_82 : decode (mcc mR_strikes) 82 = .ok (.iload_n 1, 1) := o27 (byt_of hR_strikes_b0 (j := 82) rfl)
theorem dR_strikes_83 : decode (mcc mR_strikes) 83 = .ok (.iadd, 1) := o96 (byt_of hR_strikes_b0 (j := 83) rfl)
theorem dR_strikes_84 : decode (mcc mR_strikes) 84 = .ok (.dup2, 1) := o92 (byt_of hR_strikes_b0 (j := 84) rfl)
theorem dR_strikes_85 : decode (mcc mR_strikes) 85 = .ok (.iaload, 1) := o46 (byt_of hR_strikes_b0 (j := 85) rfl)
theorem dR_strikes_86 : decode (mcc mR_strikes) 86 = .ok (.iload 4, 2) := o21 (a := 4) (byt_of hR_strikes_b0 (j := 86) rfl) (byt_of hR_strikes_b0 (j := 87) rfl)
theorem dR_strikes_88 : decode (mcc mR_strikes) 88 = .ok (.isub, 1) := o100 (byt_of hR_strikes_b0 (j := 88) rfl)
theorem dR_strikes_89 : decode (mcc mR_strikes) 89 = .ok (.iastore, 1) := o79 (byt_of hR_strikes_b0 (j := 89) rfl)
theorem dR_strikes_90 : decode (mcc mR_strikes) 90 = .ok (.aload_n 0, 1) := o42 (byt_of hR_strikes_b0 (j := 90) rfl)
theorem dR_strikes_91 : decode (mcc mR_strikes) 91 = .ok (.getfield 122, 3) := o180 (a := 0) (b := 122) (byt_of hR_strikes_b0 (j := 91) rfl) (byt_of hR_strikes_b0 (j := 92) rfl) (byt_of hR_strikes_b0 (j := 93) rfl) rfl
theorem dR_strikes_94 : decode (mcc mR_strikes) 94 = .ok (.bipush 8, 2) := o16 (a := 8) (byt_of hR_strikes_b0 (j := 94) rfl) (byt_of hR_strikes_b0 (j := 95) rfl) rfl
def bR_strikes_b1 : List Nat := [29, 104, 28, 96, 92, 46, 21, 4, 100, 79, 42, 180, 0, 125, 29, 92, 46, 21, 4, 96, 79, 132, 3, 1, 167, 255, 145, 177]
theorem hR_strikes_b1 : BL (mcc mR_strikes) 96 bR_strikes_b1 := by decide +kernel
theorem dR_strikes_96 : decode (mcc mR_strikes) 96 = .ok (.iload_n 3, 1) := o29 (byt_of hR_strikes_b1 (j := 0) rfl)
theorem dR_strikes_97 : decode (mcc mR_strikes) 97 = .ok (.imul, 1) := o104 (byt_of hR_strikes_b1 (j := 1) rfl)
theorem dR_strikes_98 : decode (mcc mR_strikes) 98 = .ok (.iload_n 2, 1) := o28 (byt_of hR_strikes_b1 (j := 2) rfl)
theorem dR_strikes_99 : decode (mcc mR_strikes) 99 = .ok (.iadd, 1) := o96 (byt_of hR_strikes_b1 (j := 3) rfl)
theorem dR_strikes_100 : decode (mcc mR_strikes) 100 = .ok (.dup2, 1) := o92 (byt_of hR_strikes_b1 (j := 4) rfl)
theorem dR_strikes_101 : decode (mcc mR_strikes) 101 = .ok (.iaload, 1) := o46 (byt_of hR_strikes_b1 (j := 5) rfl)
theorem dR_strikes_102 : decode (mcc mR_strikes) 102 = .ok (.iload 4, 2) := o21 (a := 4) (byt_of hR_strikes_b1 (j := 6) rfl) (byt_of hR_strikes_b1 (j := 7) rfl)
theorem dR_strikes_104 : decode (mcc mR_strikes) 104 = .ok (.isub, 1) := o100 (byt_of hR_strikes_b1 (j := 8) rfl)
theorem dR_strikes_105 : decode (mcc mR_strikes) 105 = .ok (.iastore, 1) := o79 (byt_of hR_strikes_b1 (j := 9) rfl)
theorem dR_strikes_106 : decode (mcc mR_strikes) 106 = .ok (.aload_n 0, 1) := o42 (byt_of hR_strikes_b1 (j := 10) rfl)
theorem dR_strikes_107 : decode (mcc mR_strikes) 107 = .ok (.getfield 125, 3) := o180 (a := 0) (b := 125) (byt_of hR_strikes_b1 (j := 11) rfl) (byt_of hR_strikes_b1 (j := 12) rfl) (byt_of hR_strikes_b1 (j := 13) rfl) rfl
theorem dR_strikes_110 : decode (mcc mR_strikes) 110 = .ok (.iload_n 3, 1) := o29 (byt_of hR_strikes_b1 (j := 14) rfl)
theorem dR_strikes_111 : decode (mcc mR_strikes) 111 = .ok (.dup2, 1) := o92 (byt_of hR_strikes_b1 (j := 15) rfl)
theorem dR_strikes_112 : decode (mcc mR_strikes) 112 = .ok (.iaload, 1) := o46 (byt_of hR_strikes_b1 (j := 16) rfl)
theorem dR_strikes_113 : decode (mcc mR_strikes) 113 = .ok (.iload 4, 2) := o21 (a := 4) (byt_of hR_strikes_b1 (j := 17) rfl) (byt_of hR_strikes_b1 (j := 18) rfl)
theorem dR_strikes_115 : decode (mcc mR_strikes) 115 = .ok (.iadd, 1) := o96 (byt_of hR_strikes_b1 (j := 19) rfl)
theorem dR_strikes_116 : decode (mcc mR_strikes) 116 = .ok (.iastore, 1) := o79 (byt_of hR_strikes_b1 (j := 20) rfl)
theorem dR_strikes_117 : decode (mcc mR_strikes) 117 = .ok (.iinc 3 1, 3) := o132 (a := 3) (b := 1) (byt_of hR_strikes_b1 (j := 21) rfl) (byt_of hR_strikes_b1 (j := 22) rfl) (byt_of hR_strikes_b1 (j := 23) rfl) rfl
theorem dR_strikes_120 : decode (mcc mR_strikes) 120 = .ok (.goto (-111), 3) := o167 (a := 255) (b := 145) (byt_of hR_strikes_b1 (j := 24) rfl) (byt_of hR_strikes_b1 (j := 25) rfl) (byt_of hR_strikes_b1 (j := 26) rfl) rfl
theorem dR_strikes_123 : decode (mcc mR_strikes) 123 = .ok (.return_, 1) := o177 (byt_of hR_strikes_b1 (j := 27) rfl)
def bR_fits_b0 : List Nat := [42, 180, 0, 38, 27, 46, 61, 3, 62, 29, 42, 180, 0, 155, 162, 0, 82, 42, 180, 0, 122, 16, 8, 27, 104, 29, 96, 46, 28, 162, 0, 17, 42, 180, 0, 122, 16, 8, 27, 104, 29, 96, 46, 167, 0, 4, 28, 54, 4, 42, 180, 0, 128, 27, 92, 46, 42, 180, 0, 122, 16, 8, 27, 104, 29, 96, 46, 21, 4, 100, 96, 79, 42, 180, 0, 122, 16, 8, 27, 104, 29, 96, 21, 4, 79, 28, 21, 4, 100, 61, 132, 3, 1, 167, 255, 172, 177]
theorem hR_fits_b0 : BL (mcc mR_fits) 0 bR_fits_b0 := by decide +kernel
theorem dR_fits_0 : decode (mcc mR_fits) 0 = .ok (.aload_n 0, 1) := o42 (byt_of hR_fits_b0 (j := 0) rfl)
theorem dR_fits_1 : decode (mcc mR_fits) 1 = .ok (.getfield 38, 3) := o180 (a := 0) (b := 38) (byt_of hR_fits_b0 (j := 1) rfl) (byt_of hR_fits_b0 (j := 2) rfl) (byt_of hR_fits_b0 (j := 3) rfl) rfl
theorem dR_fits_4 : decode (mcc mR_fits) 4 = .ok (.iload_n 1, 1) := o27 (byt_of hR_fits_b0 (j := 4) rfl)
theorem dR_fits_5 : decode (mcc mR_fits) 5 = .ok (.iaload, 1) := o46 (byt_of hR_fits_b0 (j := 5) rfl)
theorem dR_fits_6 : decode (mcc mR_fits) 6 = .ok (.istore_n 2, 1) := o61 (byt_of hR_fits_b0 (j := 6) rfl)
theorem dR_fits_7 : decode (mcc mR_fits) 7 = .ok (.iconst 0, 1) := o3 (byt_of hR_fits_b0 (j := 7) rfl)
theorem dR_fits_8 : decode (mcc mR_fits) 8 = .ok (.istore_n 3, 1) := o62 (byt_of hR_fits_b0 (j := 8) rfl)
theorem dR_fits_9 : decode (mcc mR_fits) 9 = .ok (.iload_n 3, 1) := o29 (byt_of hR_fits_b0 (j := 9) rfl)
theorem dR_fits_10 : decode (mcc mR_fits) 10 = .ok (.aload_n 0, 1) := o42 (byt_of hR_fits_b0 (j := 10) rfl)
theorem dR_fits_11 : decode (mcc mR_fits) 11 = .ok (.getfield 155, 3) := o180 (a := 0) (b := 155) (byt_of hR_fits_b0 (j := 11) rfl) (byt_of hR_fits_b0 (j := 12) rfl) (byt_of hR_fits_b0 (j := 13) rfl) rfl
theorem dR_fits_14 : decode (mcc mR_fits) 14 = .ok (.if_icmp .ge 82, 3) := o162 (a := 0) (b := 82) (byt_of hR_fits_b0 (j := 14) rfl) (byt_of hR_fits_b0 (j := 15) rfl) (byt_of hR_fits_b0 (j := 16) rfl) rfl
theorem dR_fits_17 : decode (mcc mR_fits) 17 = .ok (.aload_n 0, 1) := o42 (byt_of hR_fits_b0 (j := 17) rfl)
theorem dR_fits_18 : decode (mcc mR_fits) 18 = .ok (.getfield 122, 3) := o180 (a := 0) (b := 122) (byt_of hR_fits_b0 (j := 18) rfl) (byt_of hR_fits_b0 (j := 19) rfl) (byt_of hR_fits_b0 (j := 20) rfl) rfl
theorem dR_fits_21 : decode (mcc mR_fits) 21 = .ok (.bipush 8, 2) := o16 (a := 8) (byt_of hR_fits_b0 (j := 21) rfl) (byt_of hR_fits_b0 (j := 22) rfl) rfl
theorem dR_fits_23 : decode (mcc mR_fits) 23 = .ok (.iload_n 1, 1) := o27 (byt_of hR_fits_b0 (j := 23) rfl)
theorem dR_fits_24 : decode (mcc mR_fits) 24 = .ok (.imul, 1) := o104 (byt_of hR_fits_b0 (j := 24) rfl)
theorem dR_fits_25 : decode (mcc mR_fits) 25 = .ok (.iload_n 3, 1) := o29 (byt_of hR_fits_b0 (j := 25) rfl)
theorem dR_fits_26 : decode (mcc mR_fits) 26 = .ok (.iadd, 1) := o96 (byt_of hR_fits_b0 (j := 26) rfl)
theorem dR_fits_27 : decode (mcc mR_fits) 27 = .ok (.iaload, 1) := o46 (byt_of hR_fits_b0 (j := 27) rfl)
theorem dR_fits_28 : decode (mcc mR_fits) 28 = .ok (.iload_n 2, 1) := o28 (byt_of hR_fits_b0 (j := 28) rfl)
theorem dR_fits_29 : decode (mcc mR_fits) 29 = .ok (.if_icmp .ge 17, 3) := o162 (a := 0) (b := 17) (byt_of hR_fits_b0 (j := 29) rfl) (byt_of hR_fits_b0 (j := 30) rfl) (byt_of hR_fits_b0 (j := 31) rfl) rfl
theorem dR_fits_32 : decode (mcc mR_fits) 32 = .ok (.aload_n 0, 1) := o42 (byt_of hR_fits_b0 (j := 32) rfl)
theorem dR_fits_33 : decode (mcc mR_fits) 33 = .ok (.getfield 122, 3) := o180 (a := 0) (b := 122) (byt_of hR_fits_b0 (j := 33) rfl) (byt_of hR_fits_b0 (j := 34) rfl) (byt_of hR_fits_b0 (j := 35) rfl) rfl
theorem dR_fits_36 : decode (mcc mR_fits) 36 = .ok (.bipush 8, 2) := o16 (a := 8) (byt_of hR_fits_b0 (j := 36) rfl) (byt_of hR_fits_b0 (j := 37) rfl) rfl
theorem dR_fits_38 : decode (mcc mR_fits) 38 = .ok (.iload_n 1, 1) := o27 (byt_of hR_fits_b0 (j := 38) rfl)
theorem dR_fits_39 : decode (mcc mR_fits) 39 = .ok (.imul, 1) := o104 (byt_of hR_fits_b0 (j := 39) rfl)
theorem dR_fits_40 : decode (mcc mR_fits) 40 = .ok (.iload_n 3, 1) := o29 (byt_of hR_fits_b0 (j := 40) rfl)
theorem dR_fits_41 : decode (mcc mR_fits) 41 = .ok (.iadd, 1) := o96 (byt_of hR_fits_b0 (j := 41) rfl)
theorem dR_fits_42 : decode (mcc mR_fits) 42 = .ok (.iaload, 1) := o46 (byt_of hR_fits_b0 (j := 42) rfl)
theorem dR_fits_43 : decode (mcc mR_fits) 43 = .ok (.goto 4, 3) := o167 (a := 0) (b := 4) (byt_of hR_fits_b0 (j := 43) rfl) (byt_of hR_fits_b0 (j := 44) rfl) (byt_of hR_fits_b0 (j := 45) rfl) rfl
theorem dR_fits_46 : decode (mcc mR_fits) 46 = .ok (.iload_n 2, 1) := o28 (byt_of hR_fits_b0 (j := 46) rfl)
theorem dR_fits_47 : decode (mcc mR_fits) 47 = .ok (.istore 4, 2) := o54 (a := 4) (byt_of hR_fits_b0 (j := 47) rfl) (byt_of hR_fits_b0 (j := 48) rfl)
theorem dR_fits_49 : decode (mcc mR_fits) 49 = .ok (.aload_n 0, 1) := o42 (byt_of hR_fits_b0 (j := 49) rfl)
theorem dR_fits_50 : decode (mcc mR_fits) 50 = .ok (.getfield 128, 3) := o180 (a := 0) (b := 128) (byt_of hR_fits_b0 (j := 50) rfl) (byt_of hR_fits_b0 (j := 51) rfl) (byt_of hR_fits_b0 (j := 52) rfl) rfl
theorem dR_fits_53 : decode (mcc mR_fits) 53 = .ok (.iload_n 1, 1) := o27 (byt_of hR_fits_b0 (j := 53) rfl)
theorem dR_fits_54 : decode (mcc mR_fits) 54 = .ok (.dup2, 1) := o92 (byt_of hR_fits_b0 (j := 54) rfl)
theorem dR_fits_55 : decode (mcc mR_fits) 55 = .ok (.iaload, 1) := o46 (byt_of hR_fits_b0 (j := 55) rfl)
theorem dR_fits_56 : decode (mcc mR_fits) 56 = .ok (.aload_n 0, 1) := o42 (byt_of hR_fits_b0 (j := 56) rfl)
theorem dR_fits_57 : decode (mcc mR_fits) 57 = .ok (.getfield 122, 3) := o180 (a := 0) (b := 122) (byt_of hR_fits_b0 (j := 57) rfl) (byt_of hR_fits_b0 (j := 58) rfl) (byt_of hR_fits_b0 (j := 59) rfl) rfl
theorem dR_fits_60 : decode (mcc mR_fits) 60 = .ok (.bipush 8, 2) := o16 (a := 8) (byt_of hR_fits_b0 (j := 60) rfl) (byt_of hR_fits_b0 (j := 61) rfl) rfl
theorem dR_fits_62 : decode (mcc mR_fits) 62 = .ok (.iload_n 1, 1) := o27 (byt_of hR_fits_b0 (j := 62) rfl)
theorem dR_fits_63 : decode (mcc mR_fits) 63 = .ok (.imul, 1) := o104 (byt_of hR_fits_b0 (j := 63) rfl)
theorem dR_fits_64 : decode (mcc mR_fits) 64 = .ok (.iload_n 3, 1) := o29 (byt_of hR_fits_b0 (j := 64) rfl)
theorem dR_fits_65 : decode (mcc mR_fits) 65 = .ok (.iadd, 1) := o96 (byt_of hR_fits_b0 (j := 65) rfl)
theorem dR_fits_66 : decode (mcc mR_fits) 66 = .ok (.iaload, 1) := o46 (byt_of hR_fits_b0 (j := 66) rfl)
theorem dR_fits_67 : decode (mcc mR_fits) 67 = .ok (.iload 4, 2) := o21 (a := 4) (byt_of hR_fits_b0 (j := 67) rfl) (byt_of hR_fits_b0 (j := 68) rfl)
theorem dR_fits_69 : decode (mcc mR_fits) 69 = .ok (.isub, 1) := o100 (byt_of hR_fits_b0 (j := 69) rfl)
theorem dR_fits_70 : decode (mcc mR_fits) 70 = .ok (.iadd, 1) := o96 (byt_of hR_fits_b0 (j := 70) rfl)
theorem dR_fits_71 : decode (mcc mR_fits) 71 = .ok (.iastore, 1) := o79 (byt_of hR_fits_b0 (j := 71) rfl)
theorem dR_fits_72 : decode (mcc mR_fits) 72 = .ok (.aload_n 0, 1) := o42 (byt_of hR_fits_b0 (j := 72) rfl)
theorem dR_fits_73 : decode (mcc mR_fits) 73 = .ok (.getfield 122, 3) := o180 (a := 0) (b := 122) (byt_of hR_fits_b0 (j := 73) rfl) (byt_of hR_fits_b0 (j := 74) rfl) (byt_of hR_fits_b0 (j := 75) rfl) rfl
theorem dR_fits_76 : decode (mcc mR_fits) 76 = .ok (.bipush 8, 2) := o16 (a := 8) (byt_of hR_fits_b0 (j := 76) rfl) (byt_of hR_fits_b0 (j := 77) rfl) rfl
theorem dR_fits_78 : decode (mcc mR_fits) 78 = .ok (.iload_n 1, 1) := o27 (byt_of hR_fits_b0 (j := 78) rfl)
theorem dR_fits_79 : decode (mcc mR_fits) 79 = .ok (.imul, 1) := o104 (byt_of hR_fits_b0 (j := 79) rfl)
theorem dR_fits_80 : decode (mcc mR_fits) 80 = .ok (.iload_n 3, 1) := o29 (byt_of hR_fits_b0 (j := 80) rfl)
theorem dR_fits_81 : decode (mcc mR_fits) 81 = .ok (.iadd, 1) := o96 (byt_of hR_fits_b0 (j := 81) rfl)
theorem dR_fits_82 : decode (mcc mR_fits) 82 = .ok (.iload 4, 2) := o21 (a := 4) (byt_of hR_fits_b0 (j := 82) rfl) (byt_of hR_fits_b0 (j := 83) rfl)
theorem dR_fits_84 : decode (mcc mR_fits) 84 = .ok (.iastore, 1) := o79 (byt_of hR_fits_b0 (j := 84) rfl)
theorem dR_fits_85 : decode (mcc mR_fits) 85 = .ok (.iload_n 2, 1) := o28 (byt_of hR_fits_b0 (j := 85) rfl)
theorem dR_fits_86 : decode (mcc mR_fits) 86 = .ok (.iload 4, 2) := o21 (a := 4) (byt_of hR_fits_b0 (j := 86) rfl) (byt_of hR_fits_b0 (j := 87) rfl)
theorem dR_fits_88 : decode (mcc mR_fits) 88 = .ok (.isub, 1) := o100 (byt_of hR_fits_b0 (j := 88) rfl)
theorem dR_fits_89 : decode (mcc mR_fits) 89 = .ok (.istore_n 2, 1) := o61 (byt_of hR_fits_b0 (j := 89) rfl)
theorem dR_fits_90 : decode (mcc mR_fits) 90 = .ok (.iinc 3 1, 3) := o132 (a := 3) (b := 1) (byt_of hR_fits_b0 (j := 90) rfl) (byt_of hR_fits_b0 (j := 91) rfl) (byt_of hR_fits_b0 (j := 92) rfl) rfl
theorem dR_fits_93 : decode (mcc mR_fits) 93 = .ok (.goto (-84), 3) := o167 (a := 255) (b := 172) (byt_of hR_fits_b0 (j := 93) rfl) (byt_of hR_fits_b0 (j := 94) rfl) (byt_of hR_fits_b0 (j := 95) rfl) rfl
def bR_fits_b1 : List Nat := [177]
theorem hR_fits_b1 : BL (mcc mR_fits) 96 bR_fits_b1 := by decide +kernel
theorem dR_fits_96 : decode (mcc mR_fits) 96 = .ok (.return_, 1) := o177 (byt_of hR_fits_b1 (j := 0) rfl)
def bR_owes_b0 : List Nat := [3, 61, 28, 16, 64, 162, 0, 16, 42, 180, 0, 122, 28, 3, 79, 132, 2, 1, 167, 255, 240, 3, 61, 28, 16, 8, 162, 0, 23, 42, 180, 0, 125, 28, 3, 79, 42, 180, 0, 128, 28, 3, 79, 132, 2, 1, 167, 255, 233, 3, 61, 28, 27, 162, 0, 22, 28, 42, 180, 0, 131, 159, 0, 8, 42, 28, 182, 1, 30, 132, 2, 1, 167, 255, 235, 3, 61, 28, 42, 180, 0, 155, 162, 0, 14, 42, 28, 182, 1, 33, 132, 2, 1, 167, 255, 240, 3, 61, 28, 42, 180, 0]
theorem hR_owes_b0 : BL (mcc mR_owes) 0 bR_owes_b0 := by decide +kernel
theorem dR_owes_0 : decode (mcc mR_owes) 0 = .ok (.iconst 0, 1) := o3 (byt_of hR_owes_b0 (j := 0) rfl)
theorem dR_owes_1 : decode (mcc mR_owes) 1 = .ok (.istore_n 2, 1) := o61 (byt_of hR_owes_b0 (j := 1) rfl)
theorem dR_owes_2 : decode (mcc mR_owes) 2 = .ok (.iload_n 2, 1) := o28 (byt_of hR_owes_b0 (j := 2) rfl)
theorem dR_owes_3 : decode (mcc mR_owes) 3 = .ok (.bipush 64, 2) := o16 (a := 64) (byt_of hR_owes_b0 (j := 3) rfl) (byt_of hR_owes_b0 (j := 4) rfl) rfl
theorem dR_owes_5 : decode (mcc mR_owes) 5 = .ok (.if_icmp .ge 16, 3) := o162 (a := 0) (b := 16) (byt_of hR_owes_b0 (j := 5) rfl) (byt_of hR_owes_b0 (j := 6) rfl) (byt_of hR_owes_b0 (j := 7) rfl) rfl
theorem dR_owes_8 : decode (mcc mR_owes) 8 = .ok (.aload_n 0, 1) := o42 (byt_of hR_owes_b0 (j := 8) rfl)
theorem dR_owes_9 : decode (mcc mR_owes) 9 = .ok (.getfield 122, 3) := o180 (a := 0) (b := 122) (byt_of hR_owes_b0 (j := 9) rfl) (byt_of hR_owes_b0 (j := 10) rfl) (byt_of hR_owes_b0 (j := 11) rfl) rfl
theorem dR_owes_12 : decode (mcc mR_owes) 12 = .ok (.iload_n 2, 1) := o28 (byt_of hR_owes_b0 (j := 12) rfl)
theorem dR_owes_13 : decode (mcc mR_owes) 13 = .ok (.iconst 0, 1) := o3 (byt_of hR_owes_b0 (j := 13) rfl)
theorem dR_owes_14 : decode (mcc mR_owes) 14 = .ok (.iastore, 1) := o79 (byt_of hR_owes_b0 (j := 14) rfl)
theorem dR_owes_15 : decode (mcc mR_owes) 15 = .ok (.iinc 2 1, 3) := o132 (a := 2) (b := 1) (byt_of hR_owes_b0 (j := 15) rfl) (byt_of hR_owes_b0 (j := 16) rfl) (byt_of hR_owes_b0 (j := 17) rfl) rfl
theorem dR_owes_18 : decode (mcc mR_owes) 18 = .ok (.goto (-16), 3) := o167 (a := 255) (b := 240) (byt_of hR_owes_b0 (j := 18) rfl) (byt_of hR_owes_b0 (j := 19) rfl) (byt_of hR_owes_b0 (j := 20) rfl) rfl
theorem dR_owes_21 : decode (mcc mR_owes) 21 = .ok (.iconst 0, 1) := o3 (byt_of hR_owes_b0 (j := 21) rfl)
theorem dR_owes_22 : decode (mcc mR_owes) 22 = .ok (.istore_n 2, 1) := o61 (byt_of hR_owes_b0 (j := 22) rfl)
theorem dR_owes_23 : decode (mcc mR_owes) 23 = .ok (.iload_n 2, 1) := o28 (byt_of hR_owes_b0 (j := 23) rfl)
theorem dR_owes_24 : decode (mcc mR_owes) 24 = .ok (.bipush 8, 2) := o16 (a := 8) (byt_of hR_owes_b0 (j := 24) rfl) (byt_of hR_owes_b0 (j := 25) rfl) rfl
theorem dR_owes_26 : decode (mcc mR_owes) 26 = .ok (.if_icmp .ge 23, 3) := o162 (a := 0) (b := 23) (byt_of hR_owes_b0 (j := 26) rfl) (byt_of hR_owes_b0 (j := 27) rfl) (byt_of hR_owes_b0 (j := 28) rfl) rfl
theorem dR_owes_29 : decode (mcc mR_owes) 29 = .ok (.aload_n 0, 1) := o42 (byt_of hR_owes_b0 (j := 29) rfl)
theorem dR_owes_30 : decode (mcc mR_owes) 30 = .ok (.getfield 125, 3) := o180 (a := 0) (b := 125) (byt_of hR_owes_b0 (j := 30) rfl) (byt_of hR_owes_b0 (j := 31) rfl) (byt_of hR_owes_b0 (j := 32) rfl) rfl
theorem dR_owes_33 : decode (mcc mR_owes) 33 = .ok (.iload_n 2, 1) := o28 (byt_of hR_owes_b0 (j := 33) rfl)
theorem dR_owes_34 : decode (mcc mR_owes) 34 = .ok (.iconst 0, 1) := o3 (byt_of hR_owes_b0 (j := 34) rfl)
theorem dR_owes_35 : decode (mcc mR_owes) 35 = .ok (.iastore, 1) := o79 (byt_of hR_owes_b0 (j := 35) rfl)
theorem dR_owes_36 : decode (mcc mR_owes) 36 = .ok (.aload_n 0, 1) := o42 (byt_of hR_owes_b0 (j := 36) rfl)
theorem dR_owes_37 : decode (mcc mR_owes) 37 = .ok (.getfield 128, 3) := o180 (a := 0) (b := 128) (byt_of hR_owes_b0 (j := 37) rfl) (byt_of hR_owes_b0 (j := 38) rfl) (byt_of hR_owes_b0 (j := 39) rfl) rfl
theorem dR_owes_40 : decode (mcc mR_owes) 40 = .ok (.iload_n 2, 1) := o28 (byt_of hR_owes_b0 (j := 40) rfl)
theorem dR_owes_41 : decode (mcc mR_owes) 41 = .ok (.iconst 0, 1) := o3 (byt_of hR_owes_b0 (j := 41) rfl)
theorem dR_owes_42 : decode (mcc mR_owes) 42 = .ok (.iastore, 1) := o79 (byt_of hR_owes_b0 (j := 42) rfl)
theorem dR_owes_43 : decode (mcc mR_owes) 43 = .ok (.iinc 2 1, 3) := o132 (a := 2) (b := 1) (byt_of hR_owes_b0 (j := 43) rfl) (byt_of hR_owes_b0 (j := 44) rfl) (byt_of hR_owes_b0 (j := 45) rfl) rfl
theorem dR_owes_46 : decode (mcc mR_owes) 46 = .ok (.goto (-23), 3) := o167 (a := 255) (b := 233) (byt_of hR_owes_b0 (j := 46) rfl) (byt_of hR_owes_b0 (j := 47) rfl) (byt_of hR_owes_b0 (j := 48) rfl) rfl
theorem dR_owes_49 : decode (mcc mR_owes) 49 = .ok (.iconst 0, 1) := o3 (byt_of hR_owes_b0 (j := 49) rfl)
theorem dR_owes_50 : decode (mcc mR_owes) 50 = .ok (.istore_n 2, 1) := o61 (byt_of hR_owes_b0 (j := 50) rfl)
theorem dR_owes_51 : decode (mcc mR_owes) 51 = .ok (.iload_n 2, 1) := o28 (byt_of hR_owes_b0 (j := 51) rfl)
theorem dR_owes_52 : decode (mcc mR_owes) 52 = .ok (.iload_n 1, 1) := o27 (byt_of hR_owes_b0 (j := 52) rfl)
theorem dR_owes_53 : decode (mcc mR_owes) 53 = .ok (.if_icmp .ge 22, 3) := o162 (a := 0) (b := 22) (byt_of hR_owes_b0 (j := 53) rfl) (byt_of hR_owes_b0 (j := 54) rfl) (byt_of hR_owes_b0 (j := 55) rfl) rfl
theorem dR_owes_56 : decode (mcc mR_owes) 56 = .ok (.iload_n 2, 1) := o28 (byt_of hR_owes_b0 (j := 56) rfl)
theorem dR_owes_57 : decode (mcc mR_owes) 57 = .ok (.aload_n 0, 1) := o42 (byt_of hR_owes_b0 (j := 57) rfl)
theorem dR_owes_58 : decode (mcc mR_owes) 58 = .ok (.getfield 131, 3) := o180 (a := 0) (b := 131) (byt_of hR_owes_b0 (j := 58) rfl) (byt_of hR_owes_b0 (j := 59) rfl) (byt_of hR_owes_b0 (j := 60) rfl) rfl
theorem dR_owes_61 : decode (mcc mR_owes) 61 = .ok (.if_icmp .eq 8, 3) := o159 (a := 0) (b := 8) (byt_of hR_owes_b0 (j := 61) rfl) (byt_of hR_owes_b0 (j := 62) rfl) (byt_of hR_owes_b0 (j := 63) rfl) rfl
theorem dR_owes_64 : decode (mcc mR_owes) 64 = .ok (.aload_n 0, 1) := o42 (byt_of hR_owes_b0 (j := 64) rfl)
theorem dR_owes_65 : decode (mcc mR_owes) 65 = .ok (.iload_n 2, 1) := o28 (byt_of hR_owes_b0 (j := 65) rfl)
theorem dR_owes_66 : decode (mcc mR_owes) 66 = .ok (.invokevirtual 286, 3) := o182 (a := 1) (b := 30) (byt_of hR_owes_b0 (j := 66) rfl) (byt_of hR_owes_b0 (j := 67) rfl) (byt_of hR_owes_b0 (j := 68) rfl) rfl
theorem dR_owes_69 : decode (mcc mR_owes) 69 = .ok (.iinc 2 1, 3) := o132 (a := 2) (b := 1) (byt_of hR_owes_b0 (j := 69) rfl) (byt_of hR_owes_b0 (j := 70) rfl) (byt_of hR_owes_b0 (j := 71) rfl) rfl
theorem dR_owes_72 : decode (mcc mR_owes) 72 = .ok (.goto (-21), 3) := o167 (a := 255) (b := 235) (byt_of hR_owes_b0 (j := 72) rfl) (byt_of hR_owes_b0 (j := 73) rfl) (byt_of hR_owes_b0 (j := 74) rfl) rfl
theorem dR_owes_75 : decode (mcc mR_owes) 75 = .ok (.iconst 0, 1) := o3 (byt_of hR_owes_b0 (j := 75) rfl)
theorem dR_owes_76 : decode (mcc mR_owes) 76 = .ok (.istore_n 2, 1) := o61 (byt_of hR_owes_b0 (j := 76) rfl)
theorem dR_owes_77 : decode (mcc mR_owes) 77 = .ok (.iload_n 2, 1) := o28 (byt_of hR_owes_b0 (j := 77) rfl)
theorem dR_owes_78 : decode (mcc mR_owes) 78 = .ok (.aload_n 0, 1) := o42 (byt_of hR_owes_b0 (j := 78) rfl)
theorem dR_owes_79 : decode (mcc mR_owes) 79 = .ok (.getfield 155, 3) := o180 (a := 0) (b := 155) (byt_of hR_owes_b0 (j := 79) rfl) (byt_of hR_owes_b0 (j := 80) rfl) (byt_of hR_owes_b0 (j := 81) rfl) rfl
theorem dR_owes_82 : decode (mcc mR_owes) 82 = .ok (.if_icmp .ge 14, 3) := o162 (a := 0) (b := 14) (byt_of hR_owes_b0 (j := 82) rfl) (byt_of hR_owes_b0 (j := 83) rfl) (byt_of hR_owes_b0 (j := 84) rfl) rfl
theorem dR_owes_85 : decode (mcc mR_owes) 85 = .ok (.aload_n 0, 1) := o42 (byt_of hR_owes_b0 (j := 85) rfl)
theorem dR_owes_86 : decode (mcc mR_owes) 86 = .ok (.iload_n 2, 1) := o28 (byt_of hR_owes_b0 (j := 86) rfl)
theorem dR_owes_87 : decode (mcc mR_owes) 87 = .ok (.invokevirtual 289, 3) := o182 (a := 1) (b := 33) (byt_of hR_owes_b0 (j := 87) rfl) (byt_of hR_owes_b0 (j := 88) rfl) (byt_of hR_owes_b0 (j := 89) rfl) rfl
theorem dR_owes_90 : decode (mcc mR_owes) 90 = .ok (.iinc 2 1, 3) := o132 (a := 2) (b := 1) (byt_of hR_owes_b0 (j := 90) rfl) (byt_of hR_owes_b0 (j := 91) rfl) (byt_of hR_owes_b0 (j := 92) rfl) rfl
theorem dR_owes_93 : decode (mcc mR_owes) 93 = .ok (.goto (-16), 3) := o167 (a := 255) (b := 240) (byt_of hR_owes_b0 (j := 93) rfl) (byt_of hR_owes_b0 (j := 94) rfl) (byt_of hR_owes_b0 (j := 95) rfl) rfl
def bR_owes_b1 : List Nat := [3, 61, 28, 42, 180, 0, 148, 162, 0, 14, 42, 28, 182, 1, 36, 132, 2, 1, 167, 255, 240, 177]
theorem hR_owes_b1 : BL (mcc mR_owes) 96 bR_owes_b1 := by decide +kernel
theorem dR_owes_96 : decode (mcc mR_owes) 96 = .ok (.iconst 0, 1) := o3 (byt_of hR_owes_b1 (j := 0) rfl)
theorem dR_owes_97 : decode (mcc mR_owes) 97 = .ok (.istore_n 2, 1) := o61 (byt_of hR_owes_b1 (j := 1) rfl)
theorem dR_owes_98 : decode (mcc mR_owes) 98 = .ok (.iload_n 2, 1) := o28 (byt_of hR_owes_b1 (j := 2) rfl)
theorem dR_owes_99 : decode (mcc mR_owes) 99 = .ok (.aload_n 0, 1) := o42 (byt_of hR_owes_b1 (j := 3) rfl)
theorem dR_owes_100 : decode (mcc mR_owes) 100 = .ok (.getfield 148, 3) := o180 (a := 0) (b := 148) (byt_of hR_owes_b1 (j := 4) rfl) (byt_of hR_owes_b1 (j := 5) rfl) (byt_of hR_owes_b1 (j := 6) rfl) rfl
theorem dR_owes_103 : decode (mcc mR_owes) 103 = .ok (.if_icmp .ge 14, 3) := o162 (a := 0) (b := 14) (byt_of hR_owes_b1 (j := 7) rfl) (byt_of hR_owes_b1 (j := 8) rfl) (byt_of hR_owes_b1 (j := 9) rfl) rfl
theorem dR_owes_106 : decode (mcc mR_owes) 106 = .ok (.aload_n 0, 1) := o42 (byt_of hR_owes_b1 (j := 10) rfl)
theorem dR_owes_107 : decode (mcc mR_owes) 107 = .ok (.iload_n 2, 1) := o28 (byt_of hR_owes_b1 (j := 11) rfl)
theorem dR_owes_108 : decode (mcc mR_owes) 108 = .ok (.invokevirtual 292, 3) := o182 (a := 1) (b := 36) (byt_of hR_owes_b1 (j := 12) rfl) (byt_of hR_owes_b1 (j := 13) rfl) (byt_of hR_owes_b1 (j := 14) rfl) rfl
theorem dR_owes_111 : decode (mcc mR_owes) 111 = .ok (.iinc 2 1, 3) := o132 (a := 2) (b := 1) (byt_of hR_owes_b1 (j := 15) rfl) (byt_of hR_owes_b1 (j := 16) rfl) (byt_of hR_owes_b1 (j := 17) rfl) rfl
theorem dR_owes_114 : decode (mcc mR_owes) 114 = .ok (.goto (-16), 3) := o167 (a := 255) (b := 240) (byt_of hR_owes_b1 (j := 18) rfl) (byt_of hR_owes_b1 (j := 19) rfl) (byt_of hR_owes_b1 (j := 20) rfl) rfl
theorem dR_owes_117 : decode (mcc mR_owes) 117 = .ok (.return_, 1) := o177 (byt_of hR_owes_b1 (j := 21) rfl)
def bR_owe_b0 : List Nat := [42, 27, 182, 0, 230, 153, 0, 11, 42, 28, 182, 0, 236, 154, 0, 6, 16, 251, 172, 42, 42, 180, 0, 158, 182, 1, 39, 42, 180, 0, 122, 16, 8, 27, 104, 28, 96, 46, 172]
theorem hR_owe_b0 : BL (mcc mR_owe) 0 bR_owe_b0 := by decide +kernel
theorem dR_owe_0 : decode (mcc mR_owe) 0 = .ok (.aload_n 0, 1) := o42 (byt_of hR_owe_b0 (j := 0) rfl)
theorem dR_owe_1 : decode (mcc mR_owe) 1 = .ok (.iload_n 1, 1) := o27 (byt_of hR_owe_b0 (j := 1) rfl)
theorem dR_owe_2 : decode (mcc mR_owe) 2 = .ok (.invokevirtual 230, 3) := o182 (a := 0) (b := 230) (byt_of hR_owe_b0 (j := 2) rfl) (byt_of hR_owe_b0 (j := 3) rfl) (byt_of hR_owe_b0 (j := 4) rfl) rfl
theorem dR_owe_5 : decode (mcc mR_owe) 5 = .ok (.ifCond .eq 11, 3) := o153 (a := 0) (b := 11) (byt_of hR_owe_b0 (j := 5) rfl) (byt_of hR_owe_b0 (j := 6) rfl) (byt_of hR_owe_b0 (j := 7) rfl) rfl
theorem dR_owe_8 : decode (mcc mR_owe) 8 = .ok (.aload_n 0, 1) := o42 (byt_of hR_owe_b0 (j := 8) rfl)
theorem dR_owe_9 : decode (mcc mR_owe) 9 = .ok (.iload_n 2, 1) := o28 (byt_of hR_owe_b0 (j := 9) rfl)
theorem dR_owe_10 : decode (mcc mR_owe) 10 = .ok (.invokevirtual 236, 3) := o182 (a := 0) (b := 236) (byt_of hR_owe_b0 (j := 10) rfl) (byt_of hR_owe_b0 (j := 11) rfl) (byt_of hR_owe_b0 (j := 12) rfl) rfl
theorem dR_owe_13 : decode (mcc mR_owe) 13 = .ok (.ifCond .ne 6, 3) := o154 (a := 0) (b := 6) (byt_of hR_owe_b0 (j := 13) rfl) (byt_of hR_owe_b0 (j := 14) rfl) (byt_of hR_owe_b0 (j := 15) rfl) rfl
theorem dR_owe_16 : decode (mcc mR_owe) 16 = .ok (.bipush (-5), 2) := o16 (a := 251) (byt_of hR_owe_b0 (j := 16) rfl) (byt_of hR_owe_b0 (j := 17) rfl) rfl
theorem dR_owe_18 : decode (mcc mR_owe) 18 = .ok (.ireturn, 1) := o172 (byt_of hR_owe_b0 (j := 18) rfl)
theorem dR_owe_19 : decode (mcc mR_owe) 19 = .ok (.aload_n 0, 1) := o42 (byt_of hR_owe_b0 (j := 19) rfl)
theorem dR_owe_20 : decode (mcc mR_owe) 20 = .ok (.aload_n 0, 1) := o42 (byt_of hR_owe_b0 (j := 20) rfl)
theorem dR_owe_21 : decode (mcc mR_owe) 21 = .ok (.getfield 158, 3) := o180 (a := 0) (b := 158) (byt_of hR_owe_b0 (j := 21) rfl) (byt_of hR_owe_b0 (j := 22) rfl) (byt_of hR_owe_b0 (j := 23) rfl) rfl
theorem dR_owe_24 : decode (mcc mR_owe) 24 = .ok (.invokevirtual 295, 3) := o182 (a := 1) (b := 39) (byt_of hR_owe_b0 (j := 24) rfl) (byt_of hR_owe_b0 (j := 25) rfl) (byt_of hR_owe_b0 (j := 26) rfl) rfl
theorem dR_owe_27 : decode (mcc mR_owe) 27 = .ok (.aload_n 0, 1) := o42 (byt_of hR_owe_b0 (j := 27) rfl)
theorem dR_owe_28 : decode (mcc mR_owe) 28 = .ok (.getfield 122, 3) := o180 (a := 0) (b := 122) (byt_of hR_owe_b0 (j := 28) rfl) (byt_of hR_owe_b0 (j := 29) rfl) (byt_of hR_owe_b0 (j := 30) rfl) rfl
theorem dR_owe_31 : decode (mcc mR_owe) 31 = .ok (.bipush 8, 2) := o16 (a := 8) (byt_of hR_owe_b0 (j := 31) rfl) (byt_of hR_owe_b0 (j := 32) rfl) rfl
theorem dR_owe_33 : decode (mcc mR_owe) 33 = .ok (.iload_n 1, 1) := o27 (byt_of hR_owe_b0 (j := 33) rfl)
theorem dR_owe_34 : decode (mcc mR_owe) 34 = .ok (.imul, 1) := o104 (byt_of hR_owe_b0 (j := 34) rfl)
theorem dR_owe_35 : decode (mcc mR_owe) 35 = .ok (.iload_n 2, 1) := o28 (byt_of hR_owe_b0 (j := 35) rfl)
theorem dR_owe_36 : decode (mcc mR_owe) 36 = .ok (.iadd, 1) := o96 (byt_of hR_owe_b0 (j := 36) rfl)
theorem dR_owe_37 : decode (mcc mR_owe) 37 = .ok (.iaload, 1) := o46 (byt_of hR_owe_b0 (j := 37) rfl)
theorem dR_owe_38 : decode (mcc mR_owe) 38 = .ok (.ireturn, 1) := o172 (byt_of hR_owe_b0 (j := 38) rfl)
def bR_owedBy_b0 : List Nat := [3, 61, 3, 62, 29, 42, 180, 0, 155, 162, 0, 23, 28, 42, 180, 0, 122, 16, 8, 27, 104, 29, 96, 46, 96, 61, 132, 3, 1, 167, 255, 231, 28, 172]
theorem hR_owedBy_b0 : BL (mcc mR_owedBy) 0 bR_owedBy_b0 := by decide +kernel
theorem dR_owedBy_0 : decode (mcc mR_owedBy) 0 = .ok (.iconst 0, 1) := o3 (byt_of hR_owedBy_b0 (j := 0) rfl)
theorem dR_owedBy_1 : decode (mcc mR_owedBy) 1 = .ok (.istore_n 2, 1) := o61 (byt_of hR_owedBy_b0 (j := 1) rfl)
theorem dR_owedBy_2 : decode (mcc mR_owedBy) 2 = .ok (.iconst 0, 1) := o3 (byt_of hR_owedBy_b0 (j := 2) rfl)
theorem dR_owedBy_3 : decode (mcc mR_owedBy) 3 = .ok (.istore_n 3, 1) := o62 (byt_of hR_owedBy_b0 (j := 3) rfl)
theorem dR_owedBy_4 : decode (mcc mR_owedBy) 4 = .ok (.iload_n 3, 1) := o29 (byt_of hR_owedBy_b0 (j := 4) rfl)
theorem dR_owedBy_5 : decode (mcc mR_owedBy) 5 = .ok (.aload_n 0, 1) := o42 (byt_of hR_owedBy_b0 (j := 5) rfl)
theorem dR_owedBy_6 : decode (mcc mR_owedBy) 6 = .ok (.getfield 155, 3) := o180 (a := 0) (b := 155) (byt_of hR_owedBy_b0 (j := 6) rfl) (byt_of hR_owedBy_b0 (j := 7) rfl) (byt_of hR_owedBy_b0 (j := 8) rfl) rfl
theorem dR_owedBy_9 : decode (mcc mR_owedBy) 9 = .ok (.if_icmp .ge 23, 3) := o162 (a := 0) (b := 23) (byt_of hR_owedBy_b0 (j := 9) rfl) (byt_of hR_owedBy_b0 (j := 10) rfl) (byt_of hR_owedBy_b0 (j := 11) rfl) rfl
theorem dR_owedBy_12 : decode (mcc mR_owedBy) 12 = .ok (.iload_n 2, 1) := o28 (byt_of hR_owedBy_b0 (j := 12) rfl)
theorem dR_owedBy_13 : decode (mcc mR_owedBy) 13 = .ok (.aload_n 0, 1) := o42 (byt_of hR_owedBy_b0 (j := 13) rfl)
theorem dR_owedBy_14 : decode (mcc mR_owedBy) 14 = .ok (.getfield 122, 3) := o180 (a := 0) (b := 122) (byt_of hR_owedBy_b0 (j := 14) rfl) (byt_of hR_owedBy_b0 (j := 15) rfl) (byt_of hR_owedBy_b0 (j := 16) rfl) rfl
theorem dR_owedBy_17 : decode (mcc mR_owedBy) 17 = .ok (.bipush 8, 2) := o16 (a := 8) (byt_of hR_owedBy_b0 (j := 17) rfl) (byt_of hR_owedBy_b0 (j := 18) rfl) rfl
theorem dR_owedBy_19 : decode (mcc mR_owedBy) 19 = .ok (.iload_n 1, 1) := o27 (byt_of hR_owedBy_b0 (j := 19) rfl)
theorem dR_owedBy_20 : decode (mcc mR_owedBy) 20 = .ok (.imul, 1) := o104 (byt_of hR_owedBy_b0 (j := 20) rfl)
theorem dR_owedBy_21 : decode (mcc mR_owedBy) 21 = .ok (.iload_n 3, 1) := o29 (byt_of hR_owedBy_b0 (j := 21) rfl)
theorem dR_owedBy_22 : decode (mcc mR_owedBy) 22 = .ok (.iadd, 1) := o96 (byt_of hR_owedBy_b0 (j := 22) rfl)
theorem dR_owedBy_23 : decode (mcc mR_owedBy) 23 = .ok (.iaload, 1) := o46 (byt_of hR_owedBy_b0 (j := 23) rfl)
theorem dR_owedBy_24 : decode (mcc mR_owedBy) 24 = .ok (.iadd, 1) := o96 (byt_of hR_owedBy_b0 (j := 24) rfl)
theorem dR_owedBy_25 : decode (mcc mR_owedBy) 25 = .ok (.istore_n 2, 1) := o61 (byt_of hR_owedBy_b0 (j := 25) rfl)
theorem dR_owedBy_26 : decode (mcc mR_owedBy) 26 = .ok (.iinc 3 1, 3) := o132 (a := 3) (b := 1) (byt_of hR_owedBy_b0 (j := 26) rfl) (byt_of hR_owedBy_b0 (j := 27) rfl) (byt_of hR_owedBy_b0 (j := 28) rfl) rfl
theorem dR_owedBy_29 : decode (mcc mR_owedBy) 29 = .ok (.goto (-25), 3) := o167 (a := 255) (b := 231) (byt_of hR_owedBy_b0 (j := 29) rfl) (byt_of hR_owedBy_b0 (j := 30) rfl) (byt_of hR_owedBy_b0 (j := 31) rfl) rfl
theorem dR_owedBy_32 : decode (mcc mR_owedBy) 32 = .ok (.iload_n 2, 1) := o28 (byt_of hR_owedBy_b0 (j := 32) rfl)
theorem dR_owedBy_33 : decode (mcc mR_owedBy) 33 = .ok (.ireturn, 1) := o172 (byt_of hR_owedBy_b0 (j := 33) rfl)
def bR_painOf_b0 : List Nat := [42, 3, 3, 42, 180, 0, 26, 27, 46, 42, 27, 182, 1, 42, 3, 42, 180, 0, 35, 27, 46, 182, 0, 246, 42, 5, 182, 0, 250, 3, 17, 39, 15, 184, 0, 253, 172]
theorem hR_painOf_b0 : BL (mcc mR_painOf) 0 bR_painOf_b0 := by decide +kernel
theorem dR_painOf_0 : decode (mcc mR_painOf) 0 = .ok (.aload_n 0, 1) := o42 (byt_of hR_painOf_b0 (j := 0) rfl)
theorem dR_painOf_1 : decode (mcc mR_painOf) 1 = .ok (.iconst 0, 1) := o3 (byt_of hR_painOf_b0 (j := 1) rfl)
theorem dR_painOf_2 : decode (mcc mR_painOf) 2 = .ok (.iconst 0, 1) := o3 (byt_of hR_painOf_b0 (j := 2) rfl)
theorem dR_painOf_3 : decode (mcc mR_painOf) 3 = .ok (.aload_n 0, 1) := o42 (byt_of hR_painOf_b0 (j := 3) rfl)
theorem dR_painOf_4 : decode (mcc mR_painOf) 4 = .ok (.getfield 26, 3) := o180 (a := 0) (b := 26) (byt_of hR_painOf_b0 (j := 4) rfl) (byt_of hR_painOf_b0 (j := 5) rfl) (byt_of hR_painOf_b0 (j := 6) rfl) rfl
theorem dR_painOf_7 : decode (mcc mR_painOf) 7 = .ok (.iload_n 1, 1) := o27 (byt_of hR_painOf_b0 (j := 7) rfl)
theorem dR_painOf_8 : decode (mcc mR_painOf) 8 = .ok (.iaload, 1) := o46 (byt_of hR_painOf_b0 (j := 8) rfl)
theorem dR_painOf_9 : decode (mcc mR_painOf) 9 = .ok (.aload_n 0, 1) := o42 (byt_of hR_painOf_b0 (j := 9) rfl)
theorem dR_painOf_10 : decode (mcc mR_painOf) 10 = .ok (.iload_n 1, 1) := o27 (byt_of hR_painOf_b0 (j := 10) rfl)
theorem dR_painOf_11 : decode (mcc mR_painOf) 11 = .ok (.invokevirtual 298, 3) := o182 (a := 1) (b := 42) (byt_of hR_painOf_b0 (j := 11) rfl) (byt_of hR_painOf_b0 (j := 12) rfl) (byt_of hR_painOf_b0 (j := 13) rfl) rfl
theorem dR_painOf_14 : decode (mcc mR_painOf) 14 = .ok (.iconst 0, 1) := o3 (byt_of hR_painOf_b0 (j := 14) rfl)
theorem dR_painOf_15 : decode (mcc mR_painOf) 15 = .ok (.aload_n 0, 1) := o42 (byt_of hR_painOf_b0 (j := 15) rfl)
theorem dR_painOf_16 : decode (mcc mR_painOf) 16 = .ok (.getfield 35, 3) := o180 (a := 0) (b := 35) (byt_of hR_painOf_b0 (j := 16) rfl) (byt_of hR_painOf_b0 (j := 17) rfl) (byt_of hR_painOf_b0 (j := 18) rfl) rfl
theorem dR_painOf_19 : decode (mcc mR_painOf) 19 = .ok (.iload_n 1, 1) := o27 (byt_of hR_painOf_b0 (j := 19) rfl)
theorem dR_painOf_20 : decode (mcc mR_painOf) 20 = .ok (.iaload, 1) := o46 (byt_of hR_painOf_b0 (j := 20) rfl)
theorem dR_painOf_21 : decode (mcc mR_painOf) 21 = .ok (.invokevirtual 246, 3) := o182 (a := 0) (b := 246) (byt_of hR_painOf_b0 (j := 21) rfl) (byt_of hR_painOf_b0 (j := 22) rfl) (byt_of hR_painOf_b0 (j := 23) rfl) rfl
theorem dR_painOf_24 : decode (mcc mR_painOf) 24 = .ok (.aload_n 0, 1) := o42 (byt_of hR_painOf_b0 (j := 24) rfl)
theorem dR_painOf_25 : decode (mcc mR_painOf) 25 = .ok (.iconst 2, 1) := o5 (byt_of hR_painOf_b0 (j := 25) rfl)
theorem dR_painOf_26 : decode (mcc mR_painOf) 26 = .ok (.invokevirtual 250, 3) := o182 (a := 0) (b := 250) (byt_of hR_painOf_b0 (j := 26) rfl) (byt_of hR_painOf_b0 (j := 27) rfl) (byt_of hR_painOf_b0 (j := 28) rfl) rfl
theorem dR_painOf_29 : decode (mcc mR_painOf) 29 = .ok (.iconst 0, 1) := o3 (byt_of hR_painOf_b0 (j := 29) rfl)
theorem dR_painOf_30 : decode (mcc mR_painOf) 30 = .ok (.sipush 9999, 3) := o17 (a := 39) (b := 15) (byt_of hR_painOf_b0 (j := 30) rfl) (byt_of hR_painOf_b0 (j := 31) rfl) (byt_of hR_painOf_b0 (j := 32) rfl) rfl
theorem dR_painOf_33 : decode (mcc mR_painOf) 33 = .ok (.invokestatic 253, 3) := o184 (a := 0) (b := 253) (byt_of hR_painOf_b0 (j := 33) rfl) (byt_of hR_painOf_b0 (j := 34) rfl) (byt_of hR_painOf_b0 (j := 35) rfl) rfl
theorem dR_painOf_36 : decode (mcc mR_painOf) 36 = .ok (.ireturn, 1) := o172 (byt_of hR_painOf_b0 (j := 36) rfl)
def bR_load_b0 : List Nat := [42, 27, 182, 0, 230, 154, 0, 6, 16, 251, 172, 42, 42, 180, 0, 158, 182, 1, 39, 28, 170, 0, 0, 0, 0, 0, 0, 75, 0, 0, 0, 0, 0, 0, 0, 4, 0, 0, 0, 36, 0, 0, 0, 42, 0, 0, 0, 49, 0, 0, 0, 56, 0, 0, 0, 62, 42, 27, 182, 1, 42, 172, 42, 180, 0, 125, 27, 46, 172, 42, 180, 0, 128, 27, 46, 172, 42, 27, 182, 1, 45, 172, 42, 180, 0, 38, 27, 46, 42, 27, 182, 1, 42, 100, 172, 16, 249, 172]
theorem hR_load_b0 : BL (mcc mR_load) 0 bR_load_b0 := by decide +kernel
theorem dR_load_0 : decode (mcc mR_load) 0 = .ok (.aload_n 0, 1) := o42 (byt_of hR_load_b0 (j := 0) rfl)
theorem dR_load_1 : decode (mcc mR_load) 1 = .ok (.iload_n 1, 1) := o27 (byt_of hR_load_b0 (j := 1) rfl)
theorem dR_load_2 : decode (mcc mR_load) 2 = .ok (.invokevirtual 230, 3) := o182 (a := 0) (b := 230) (byt_of hR_load_b0 (j := 2) rfl) (byt_of hR_load_b0 (j := 3) rfl) (byt_of hR_load_b0 (j := 4) rfl) rfl
theorem dR_load_5 : decode (mcc mR_load) 5 = .ok (.ifCond .ne 6, 3) := o154 (a := 0) (b := 6) (byt_of hR_load_b0 (j := 5) rfl) (byt_of hR_load_b0 (j := 6) rfl) (byt_of hR_load_b0 (j := 7) rfl) rfl
theorem dR_load_8 : decode (mcc mR_load) 8 = .ok (.bipush (-5), 2) := o16 (a := 251) (byt_of hR_load_b0 (j := 8) rfl) (byt_of hR_load_b0 (j := 9) rfl) rfl
theorem dR_load_10 : decode (mcc mR_load) 10 = .ok (.ireturn, 1) := o172 (byt_of hR_load_b0 (j := 10) rfl)
theorem dR_load_11 : decode (mcc mR_load) 11 = .ok (.aload_n 0, 1) := o42 (byt_of hR_load_b0 (j := 11) rfl)
theorem dR_load_12 : decode (mcc mR_load) 12 = .ok (.aload_n 0, 1) := o42 (byt_of hR_load_b0 (j := 12) rfl)
theorem dR_load_13 : decode (mcc mR_load) 13 = .ok (.getfield 158, 3) := o180 (a := 0) (b := 158) (byt_of hR_load_b0 (j := 13) rfl) (byt_of hR_load_b0 (j := 14) rfl) (byt_of hR_load_b0 (j := 15) rfl) rfl
theorem dR_load_16 : decode (mcc mR_load) 16 = .ok (.invokevirtual 295, 3) := o182 (a := 1) (b := 39) (byt_of hR_load_b0 (j := 16) rfl) (byt_of hR_load_b0 (j := 17) rfl) (byt_of hR_load_b0 (j := 18) rfl) rfl
theorem dR_load_19 : decode (mcc mR_load) 19 = .ok (.iload_n 2, 1) := o28 (byt_of hR_load_b0 (j := 19) rfl)
theorem dR_load_20 : decode (mcc mR_load) 20 = .ok (.tableswitch 75 0 4 #[36, 42, 49, 56, 62], 36) := by decide +kernel
theorem dR_load_56 : decode (mcc mR_load) 56 = .ok (.aload_n 0, 1) := o42 (byt_of hR_load_b0 (j := 56) rfl)
theorem dR_load_57 : decode (mcc mR_load) 57 = .ok (.iload_n 1, 1) := o27 (byt_of hR_load_b0 (j := 57) rfl)
theorem dR_load_58 : decode (mcc mR_load) 58 = .ok (.invokevirtual 298, 3) := o182 (a := 1) (b := 42) (byt_of hR_load_b0 (j := 58) rfl) (byt_of hR_load_b0 (j := 59) rfl) (byt_of hR_load_b0 (j := 60) rfl) rfl
theorem dR_load_61 : decode (mcc mR_load) 61 = .ok (.ireturn, 1) := o172 (byt_of hR_load_b0 (j := 61) rfl)
theorem dR_load_62 : decode (mcc mR_load) 62 = .ok (.aload_n 0, 1) := o42 (byt_of hR_load_b0 (j := 62) rfl)
theorem dR_load_63 : decode (mcc mR_load) 63 = .ok (.getfield 125, 3) := o180 (a := 0) (b := 125) (byt_of hR_load_b0 (j := 63) rfl) (byt_of hR_load_b0 (j := 64) rfl) (byt_of hR_load_b0 (j := 65) rfl) rfl
theorem dR_load_66 : decode (mcc mR_load) 66 = .ok (.iload_n 1, 1) := o27 (byt_of hR_load_b0 (j := 66) rfl)
theorem dR_load_67 : decode (mcc mR_load) 67 = .ok (.iaload, 1) := o46 (byt_of hR_load_b0 (j := 67) rfl)
theorem dR_load_68 : decode (mcc mR_load) 68 = .ok (.ireturn, 1) := o172 (byt_of hR_load_b0 (j := 68) rfl)
theorem dR_load_69 : decode (mcc mR_load) 69 = .ok (.aload_n 0, 1) := o42 (byt_of hR_load_b0 (j := 69) rfl)
theorem dR_load_70 : decode (mcc mR_load) 70 = .ok (.getfield 128, 3) := o180 (a := 0) (b := 128) (byt_of hR_load_b0 (j := 70) rfl) (byt_of hR_load_b0 (j := 71) rfl) (byt_of hR_load_b0 (j := 72) rfl) rfl
theorem dR_load_73 : decode (mcc mR_load) 73 = .ok (.iload_n 1, 1) := o27 (byt_of hR_load_b0 (j := 73) rfl)
theorem dR_load_74 : decode (mcc mR_load) 74 = .ok (.iaload, 1) := o46 (byt_of hR_load_b0 (j := 74) rfl)
theorem dR_load_75 : decode (mcc mR_load) 75 = .ok (.ireturn, 1) := o172 (byt_of hR_load_b0 (j := 75) rfl)
theorem dR_load_76 : decode (mcc mR_load) 76 = .ok (.aload_n 0, 1) := o42 (byt_of hR_load_b0 (j := 76) rfl)
theorem dR_load_77 : decode (mcc mR_load) 77 = .ok (.iload_n 1, 1) := o27 (byt_of hR_load_b0 (j := 77) rfl)
theorem dR_load_78 : decode (mcc mR_load) 78 = .ok (.invokevirtual 301, 3) := o182 (a := 1) (b := 45) (byt_of hR_load_b0 (j := 78) rfl) (byt_of hR_load_b0 (j := 79) rfl) (byt_of hR_load_b0 (j := 80) rfl) rfl
theorem dR_load_81 : decode (mcc mR_load) 81 = .ok (.ireturn, 1) := o172 (byt_of hR_load_b0 (j := 81) rfl)
theorem dR_load_82 : decode (mcc mR_load) 82 = .ok (.aload_n 0, 1) := o42 (byt_of hR_load_b0 (j := 82) rfl)
theorem dR_load_83 : decode (mcc mR_load) 83 = .ok (.getfield 38, 3) := o180 (a := 0) (b := 38) (byt_of hR_load_b0 (j := 83) rfl) (byt_of hR_load_b0 (j := 84) rfl) (byt_of hR_load_b0 (j := 85) rfl) rfl
theorem dR_load_86 : decode (mcc mR_load) 86 = .ok (.iload_n 1, 1) := o27 (byt_of hR_load_b0 (j := 86) rfl)
theorem dR_load_87 : decode (mcc mR_load) 87 = .ok (.iaload, 1) := o46 (byt_of hR_load_b0 (j := 87) rfl)
theorem dR_load_88 : decode (mcc mR_load) 88 = .ok (.aload_n 0, 1) := o42 (byt_of hR_load_b0 (j := 88) rfl)
theorem dR_load_89 : decode (mcc mR_load) 89 = .ok (.iload_n 1, 1) := o27 (byt_of hR_load_b0 (j := 89) rfl)
theorem dR_load_90 : decode (mcc mR_load) 90 = .ok (.invokevirtual 298, 3) := o182 (a := 1) (b := 42) (byt_of hR_load_b0 (j := 90) rfl) (byt_of hR_load_b0 (j := 91) rfl) (byt_of hR_load_b0 (j := 92) rfl) rfl
theorem dR_load_93 : decode (mcc mR_load) 93 = .ok (.isub, 1) := o100 (byt_of hR_load_b0 (j := 93) rfl)
theorem dR_load_94 : decode (mcc mR_load) 94 = .ok (.ireturn, 1) := o172 (byt_of hR_load_b0 (j := 94) rfl)
theorem dR_load_95 : decode (mcc mR_load) 95 = .ok (.bipush (-7), 2) := o16 (a := 249) (byt_of hR_load_b0 (j := 95) rfl) (byt_of hR_load_b0 (j := 96) rfl) rfl
def bR_load_b1 : List Nat := [249, 172]
theorem hR_load_b1 : BL (mcc mR_load) 96 bR_load_b1 := by decide +kernel
theorem dR_load_97 : decode (mcc mR_load) 97 = .ok (.ireturn, 1) := o172 (byt_of hR_load_b1 (j := 1) rfl)
def bR_doneOf_b0 : List Nat := [3, 61, 3, 62, 29, 42, 180, 0, 148, 162, 0, 36, 28, 42, 29, 27, 182, 1, 27, 153, 0, 17, 42, 180, 0, 122, 16, 8, 29, 104, 27, 96, 46, 167, 0, 4, 3, 96, 61, 132, 3, 1, 167, 255, 218, 28, 42, 180, 0, 47, 27, 46, 162, 0, 7, 28, 167, 0, 9, 42, 180, 0, 47, 27, 46, 172]
theorem hR_doneOf_b0 : BL (mcc mR_doneOf) 0 bR_doneOf_b0 := by decide +kernel
theorem dR_doneOf_0 : decode (mcc mR_doneOf) 0 = .ok (.iconst 0, 1) := o3 (byt_of hR_doneOf_b0 (j := 0) rfl)
theorem dR_doneOf_1 : decode (mcc mR_doneOf) 1 = .ok (.istore_n 2, 1) := o61 (byt_of hR_doneOf_b0 (j := 1) rfl)
theorem dR_doneOf_2 : decode (mcc mR_doneOf) 2 = .ok (.iconst 0, 1) := o3 (byt_of hR_doneOf_b0 (j := 2) rfl)
theorem dR_doneOf_3 : decode (mcc mR_doneOf) 3 = .ok (.istore_n 3, 1) := o62 (byt_of hR_doneOf_b0 (j := 3) rfl)
theorem dR_doneOf_4 : decode (mcc mR_doneOf) 4 = .ok (.iload_n 3, 1) := o29 (byt_of hR_doneOf_b0 (j := 4) rfl)
theorem dR_doneOf_5 : decode (mcc mR_doneOf) 5 = .ok (.aload_n 0, 1) := o42 (byt_of hR_doneOf_b0 (j := 5) rfl)
theorem dR_doneOf_6 : decode (mcc mR_doneOf) 6 = .ok (.getfield 148, 3) := o180 (a := 0) (b := 148) (byt_of hR_doneOf_b0 (j := 6) rfl) (byt_of hR_doneOf_b0 (j := 7) rfl) (byt_of hR_doneOf_b0 (j := 8) rfl) rfl
theorem dR_doneOf_9 : decode (mcc mR_doneOf) 9 = .ok (.if_icmp .ge 36, 3) := o162 (a := 0) (b := 36) (byt_of hR_doneOf_b0 (j := 9) rfl) (byt_of hR_doneOf_b0 (j := 10) rfl) (byt_of hR_doneOf_b0 (j := 11) rfl) rfl
theorem dR_doneOf_12 : decode (mcc mR_doneOf) 12 = .ok (.iload_n 2, 1) := o28 (byt_of hR_doneOf_b0 (j := 12) rfl)
theorem dR_doneOf_13 : decode (mcc mR_doneOf) 13 = .ok (.aload_n 0, 1) := o42 (byt_of hR_doneOf_b0 (j := 13) rfl)
theorem dR_doneOf_14 : decode (mcc mR_doneOf) 14 = .ok (.iload_n 3, 1) := o29 (byt_of hR_doneOf_b0 (j := 14) rfl)
theorem dR_doneOf_15 : decode (mcc mR_doneOf) 15 = .ok (.iload_n 1, 1) := o27 (byt_of hR_doneOf_b0 (j := 15) rfl)
theorem dR_doneOf_16 : decode (mcc mR_doneOf) 16 = .ok (.invokevirtual 283, 3) := o182 (a := 1) (b := 27) (byt_of hR_doneOf_b0 (j := 16) rfl) (byt_of hR_doneOf_b0 (j := 17) rfl) (byt_of hR_doneOf_b0 (j := 18) rfl) rfl
theorem dR_doneOf_19 : decode (mcc mR_doneOf) 19 = .ok (.ifCond .eq 17, 3) := o153 (a := 0) (b := 17) (byt_of hR_doneOf_b0 (j := 19) rfl) (byt_of hR_doneOf_b0 (j := 20) rfl) (byt_of hR_doneOf_b0 (j := 21) rfl) rfl
theorem dR_doneOf_22 : decode (mcc mR_doneOf) 22 = .ok (.aload_n 0, 1) := o42 (byt_of hR_doneOf_b0 (j := 22) rfl)
theorem dR_doneOf_23 : decode (mcc mR_doneOf) 23 = .ok (.getfield 122, 3) := o180 (a := 0) (b := 122) (byt_of hR_doneOf_b0 (j := 23) rfl) (byt_of hR_doneOf_b0 (j := 24) rfl) (byt_of hR_doneOf_b0 (j := 25) rfl) rfl
theorem dR_doneOf_26 : decode (mcc mR_doneOf) 26 = .ok (.bipush 8, 2) := o16 (a := 8) (byt_of hR_doneOf_b0 (j := 26) rfl) (byt_of hR_doneOf_b0 (j := 27) rfl) rfl
theorem dR_doneOf_28 : decode (mcc mR_doneOf) 28 = .ok (.iload_n 3, 1) := o29 (byt_of hR_doneOf_b0 (j := 28) rfl)
theorem dR_doneOf_29 : decode (mcc mR_doneOf) 29 = .ok (.imul, 1) := o104 (byt_of hR_doneOf_b0 (j := 29) rfl)
theorem dR_doneOf_30 : decode (mcc mR_doneOf) 30 = .ok (.iload_n 1, 1) := o27 (byt_of hR_doneOf_b0 (j := 30) rfl)
theorem dR_doneOf_31 : decode (mcc mR_doneOf) 31 = .ok (.iadd, 1) := o96 (byt_of hR_doneOf_b0 (j := 31) rfl)
theorem dR_doneOf_32 : decode (mcc mR_doneOf) 32 = .ok (.iaload, 1) := o46 (byt_of hR_doneOf_b0 (j := 32) rfl)
theorem dR_doneOf_33 : decode (mcc mR_doneOf) 33 = .ok (.goto 4, 3) := o167 (a := 0) (b := 4) (byt_of hR_doneOf_b0 (j := 33) rfl) (byt_of hR_doneOf_b0 (j := 34) rfl) (byt_of hR_doneOf_b0 (j := 35) rfl) rfl
theorem dR_doneOf_36 : decode (mcc mR_doneOf) 36 = .ok (.iconst 0, 1) := o3 (byt_of hR_doneOf_b0 (j := 36) rfl)
theorem dR_doneOf_37 : decode (mcc mR_doneOf) 37 = .ok (.iadd, 1) := o96 (byt_of hR_doneOf_b0 (j := 37) rfl)
theorem dR_doneOf_38 : decode (mcc mR_doneOf) 38 = .ok (.istore_n 2, 1) := o61 (byt_of hR_doneOf_b0 (j := 38) rfl)
theorem dR_doneOf_39 : decode (mcc mR_doneOf) 39 = .ok (.iinc 3 1, 3) := o132 (a := 3) (b := 1) (byt_of hR_doneOf_b0 (j := 39) rfl) (byt_of hR_doneOf_b0 (j := 40) rfl) (byt_of hR_doneOf_b0 (j := 41) rfl) rfl
theorem dR_doneOf_42 : decode (mcc mR_doneOf) 42 = .ok (.goto (-38), 3) := o167 (a := 255) (b := 218) (byt_of hR_doneOf_b0 (j := 42) rfl) (byt_of hR_doneOf_b0 (j := 43) rfl) (byt_of hR_doneOf_b0 (j := 44) rfl) rfl
theorem dR_doneOf_45 : decode (mcc mR_doneOf) 45 = .ok (.iload_n 2, 1) := o28 (byt_of hR_doneOf_b0 (j := 45) rfl)
theorem dR_doneOf_46 : decode (mcc mR_doneOf) 46 = .ok (.aload_n 0, 1) := o42 (byt_of hR_doneOf_b0 (j := 46) rfl)
theorem dR_doneOf_47 : decode (mcc mR_doneOf) 47 = .ok (.getfield 47, 3) := o180 (a := 0) (b := 47) (byt_of hR_doneOf_b0 (j := 47) rfl) (byt_of hR_doneOf_b0 (j := 48) rfl) (byt_of hR_doneOf_b0 (j := 49) rfl) rfl
theorem dR_doneOf_50 : decode (mcc mR_doneOf) 50 = .ok (.iload_n 1, 1) := o27 (byt_of hR_doneOf_b0 (j := 50) rfl)
theorem dR_doneOf_51 : decode (mcc mR_doneOf) 51 = .ok (.iaload, 1) := o46 (byt_of hR_doneOf_b0 (j := 51) rfl)
theorem dR_doneOf_52 : decode (mcc mR_doneOf) 52 = .ok (.if_icmp .ge 7, 3) := o162 (a := 0) (b := 7) (byt_of hR_doneOf_b0 (j := 52) rfl) (byt_of hR_doneOf_b0 (j := 53) rfl) (byt_of hR_doneOf_b0 (j := 54) rfl) rfl
theorem dR_doneOf_55 : decode (mcc mR_doneOf) 55 = .ok (.iload_n 2, 1) := o28 (byt_of hR_doneOf_b0 (j := 55) rfl)
theorem dR_doneOf_56 : decode (mcc mR_doneOf) 56 = .ok (.goto 9, 3) := o167 (a := 0) (b := 9) (byt_of hR_doneOf_b0 (j := 56) rfl) (byt_of hR_doneOf_b0 (j := 57) rfl) (byt_of hR_doneOf_b0 (j := 58) rfl) rfl
theorem dR_doneOf_59 : decode (mcc mR_doneOf) 59 = .ok (.aload_n 0, 1) := o42 (byt_of hR_doneOf_b0 (j := 59) rfl)
theorem dR_doneOf_60 : decode (mcc mR_doneOf) 60 = .ok (.getfield 47, 3) := o180 (a := 0) (b := 47) (byt_of hR_doneOf_b0 (j := 60) rfl) (byt_of hR_doneOf_b0 (j := 61) rfl) (byt_of hR_doneOf_b0 (j := 62) rfl) rfl
theorem dR_doneOf_63 : decode (mcc mR_doneOf) 63 = .ok (.iload_n 1, 1) := o27 (byt_of hR_doneOf_b0 (j := 63) rfl)
theorem dR_doneOf_64 : decode (mcc mR_doneOf) 64 = .ok (.iaload, 1) := o46 (byt_of hR_doneOf_b0 (j := 64) rfl)
theorem dR_doneOf_65 : decode (mcc mR_doneOf) 65 = .ok (.ireturn, 1) := o172 (byt_of hR_doneOf_b0 (j := 65) rfl)
def bR_isKept_b0 : List Nat := [42, 27, 182, 1, 48, 42, 180, 0, 47, 27, 46, 160, 0, 7, 4, 167, 0, 4, 3, 172]
theorem hR_isKept_b0 : BL (mcc mR_isKept) 0 bR_isKept_b0 := by decide +kernel
theorem dR_isKept_0 : decode (mcc mR_isKept) 0 = .ok (.aload_n 0, 1) := o42 (byt_of hR_isKept_b0 (j := 0) rfl)
theorem dR_isKept_1 : decode (mcc mR_isKept) 1 = .ok (.iload_n 1, 1) := o27 (byt_of hR_isKept_b0 (j := 1) rfl)
theorem dR_isKept_2 : decode (mcc mR_isKept) 2 = .ok (.invokevirtual 304, 3) := o182 (a := 1) (b := 48) (byt_of hR_isKept_b0 (j := 2) rfl) (byt_of hR_isKept_b0 (j := 3) rfl) (byt_of hR_isKept_b0 (j := 4) rfl) rfl
theorem dR_isKept_5 : decode (mcc mR_isKept) 5 = .ok (.aload_n 0, 1) := o42 (byt_of hR_isKept_b0 (j := 5) rfl)
theorem dR_isKept_6 : decode (mcc mR_isKept) 6 = .ok (.getfield 47, 3) := o180 (a := 0) (b := 47) (byt_of hR_isKept_b0 (j := 6) rfl) (byt_of hR_isKept_b0 (j := 7) rfl) (byt_of hR_isKept_b0 (j := 8) rfl) rfl
theorem dR_isKept_9 : decode (mcc mR_isKept) 9 = .ok (.iload_n 1, 1) := o27 (byt_of hR_isKept_b0 (j := 9) rfl)
theorem dR_isKept_10 : decode (mcc mR_isKept) 10 = .ok (.iaload, 1) := o46 (byt_of hR_isKept_b0 (j := 10) rfl)
theorem dR_isKept_11 : decode (mcc mR_isKept) 11 = .ok (.if_icmp .ne 7, 3) := o160 (a := 0) (b := 7) (byt_of hR_isKept_b0 (j := 11) rfl) (byt_of hR_isKept_b0 (j := 12) rfl) (byt_of hR_isKept_b0 (j := 13) rfl) rfl
theorem dR_isKept_14 : decode (mcc mR_isKept) 14 = .ok (.iconst 1, 1) := o4 (byt_of hR_isKept_b0 (j := 14) rfl)
theorem dR_isKept_15 : decode (mcc mR_isKept) 15 = .ok (.goto 4, 3) := o167 (a := 0) (b := 4) (byt_of hR_isKept_b0 (j := 15) rfl) (byt_of hR_isKept_b0 (j := 16) rfl) (byt_of hR_isKept_b0 (j := 17) rfl) rfl
theorem dR_isKept_18 : decode (mcc mR_isKept) 18 = .ok (.iconst 0, 1) := o3 (byt_of hR_isKept_b0 (j := 18) rfl)
theorem dR_isKept_19 : decode (mcc mR_isKept) 19 = .ok (.ireturn, 1) := o172 (byt_of hR_isKept_b0 (j := 19) rfl)
def bR_done_b0 : List Nat := [42, 27, 182, 0, 236, 154, 0, 6, 16, 251, 172, 42, 42, 180, 0, 158, 182, 1, 39, 42, 27, 182, 1, 48, 172]
theorem hR_done_b0 : BL (mcc mR_done) 0 bR_done_b0 := by decide +kernel
theorem dR_done_0 : decode (mcc mR_done) 0 = .ok (.aload_n 0, 1) := o42 (byt_of hR_done_b0 (j := 0) rfl)
theorem dR_done_1 : decode (mcc mR_done) 1 = .ok (.iload_n 1, 1) := o27 (byt_of hR_done_b0 (j := 1) rfl)
theorem dR_done_2 : decode (mcc mR_done) 2 = .ok (.invokevirtual 236, 3) := o182 (a := 0) (b := 236) (byt_of hR_done_b0 (j := 2) rfl) (byt_of hR_done_b0 (j := 3) rfl) (byt_of hR_done_b0 (j := 4) rfl) rfl
theorem dR_done_5 : decode (mcc mR_done) 5 = .ok (.ifCond .ne 6, 3) := o154 (a := 0) (b := 6) (byt_of hR_done_b0 (j := 5) rfl) (byt_of hR_done_b0 (j := 6) rfl) (byt_of hR_done_b0 (j := 7) rfl) rfl
theorem dR_done_8 : decode (mcc mR_done) 8 = .ok (.bipush (-5), 2) := o16 (a := 251) (byt_of hR_done_b0 (j := 8) rfl) (byt_of hR_done_b0 (j := 9) rfl) rfl
theorem dR_done_10 : decode (mcc mR_done) 10 = .ok (.ireturn, 1) := o172 (byt_of hR_done_b0 (j := 10) rfl)
theorem dR_done_11 : decode (mcc mR_done) 11 = .ok (.aload_n 0, 1) := o42 (byt_of hR_done_b0 (j := 11) rfl)
theorem dR_done_12 : decode (mcc mR_done) 12 = .ok (.aload_n 0, 1) := o42 (byt_of hR_done_b0 (j := 12) rfl)
theorem dR_done_13 : decode (mcc mR_done) 13 = .ok (.getfield 158, 3) := o180 (a := 0) (b := 158) (byt_of hR_done_b0 (j := 13) rfl) (byt_of hR_done_b0 (j := 14) rfl) (byt_of hR_done_b0 (j := 15) rfl) rfl
theorem dR_done_16 : decode (mcc mR_done) 16 = .ok (.invokevirtual 295, 3) := o182 (a := 1) (b := 39) (byt_of hR_done_b0 (j := 16) rfl) (byt_of hR_done_b0 (j := 17) rfl) (byt_of hR_done_b0 (j := 18) rfl) rfl
theorem dR_done_19 : decode (mcc mR_done) 19 = .ok (.aload_n 0, 1) := o42 (byt_of hR_done_b0 (j := 19) rfl)
theorem dR_done_20 : decode (mcc mR_done) 20 = .ok (.iload_n 1, 1) := o27 (byt_of hR_done_b0 (j := 20) rfl)
theorem dR_done_21 : decode (mcc mR_done) 21 = .ok (.invokevirtual 304, 3) := o182 (a := 1) (b := 48) (byt_of hR_done_b0 (j := 21) rfl) (byt_of hR_done_b0 (j := 22) rfl) (byt_of hR_done_b0 (j := 23) rfl) rfl
theorem dR_done_24 : decode (mcc mR_done) 24 = .ok (.ireturn, 1) := o172 (byt_of hR_done_b0 (j := 24) rfl)
def bR_keptNow_b0 : List Nat := [3, 60, 3, 61, 28, 42, 180, 0, 155, 162, 0, 27, 27, 42, 28, 182, 1, 51, 153, 0, 9, 4, 28, 120, 167, 0, 4, 3, 128, 60, 132, 2, 1, 167, 255, 227, 27, 172]
theorem hR_keptNow_b0 : BL (mcc mR_keptNow) 0 bR_keptNow_b0 := by decide +kernel
theorem dR_keptNow_0 : decode (mcc mR_keptNow) 0 = .ok (.iconst 0, 1) := o3 (byt_of hR_keptNow_b0 (j := 0) rfl)
theorem dR_keptNow_1 : decode (mcc mR_keptNow) 1 = .ok (.istore_n 1, 1) := o60 (byt_of hR_keptNow_b0 (j := 1) rfl)
theorem dR_keptNow_2 : decode (mcc mR_keptNow) 2 = .ok (.iconst 0, 1) := o3 (byt_of hR_keptNow_b0 (j := 2) rfl)
theorem dR_keptNow_3 : decode (mcc mR_keptNow) 3 = .ok (.istore_n 2, 1) := o61 (byt_of hR_keptNow_b0 (j := 3) rfl)
theorem dR_keptNow_4 : decode (mcc mR_keptNow) 4 = .ok (.iload_n 2, 1) := o28 (byt_of hR_keptNow_b0 (j := 4) rfl)
theorem dR_keptNow_5 : decode (mcc mR_keptNow) 5 = .ok (.aload_n 0, 1) := o42 (byt_of hR_keptNow_b0 (j := 5) rfl)
theorem dR_keptNow_6 : decode (mcc mR_keptNow) 6 = .ok (.getfield 155, 3) := o180 (a := 0) (b := 155) (byt_of hR_keptNow_b0 (j := 6) rfl) (byt_of hR_keptNow_b0 (j := 7) rfl) (byt_of hR_keptNow_b0 (j := 8) rfl) rfl
theorem dR_keptNow_9 : decode (mcc mR_keptNow) 9 = .ok (.if_icmp .ge 27, 3) := o162 (a := 0) (b := 27) (byt_of hR_keptNow_b0 (j := 9) rfl) (byt_of hR_keptNow_b0 (j := 10) rfl) (byt_of hR_keptNow_b0 (j := 11) rfl) rfl
theorem dR_keptNow_12 : decode (mcc mR_keptNow) 12 = .ok (.iload_n 1, 1) := o27 (byt_of hR_keptNow_b0 (j := 12) rfl)
theorem dR_keptNow_13 : decode (mcc mR_keptNow) 13 = .ok (.aload_n 0, 1) := o42 (byt_of hR_keptNow_b0 (j := 13) rfl)
theorem dR_keptNow_14 : decode (mcc mR_keptNow) 14 = .ok (.iload_n 2, 1) := o28 (byt_of hR_keptNow_b0 (j := 14) rfl)
theorem dR_keptNow_15 : decode (mcc mR_keptNow) 15 = .ok (.invokevirtual 307, 3) := o182 (a := 1) (b := 51) (byt_of hR_keptNow_b0 (j := 15) rfl) (byt_of hR_keptNow_b0 (j := 16) rfl) (byt_of hR_keptNow_b0 (j := 17) rfl) rfl
theorem dR_keptNow_18 : decode (mcc mR_keptNow) 18 = .ok (.ifCond .eq 9, 3) := o153 (a := 0) (b := 9) (byt_of hR_keptNow_b0 (j := 18) rfl) (byt_of hR_keptNow_b0 (j := 19) rfl) (byt_of hR_keptNow_b0 (j := 20) rfl) rfl
theorem dR_keptNow_21 : decode (mcc mR_keptNow) 21 = .ok (.iconst 1, 1) := o4 (byt_of hR_keptNow_b0 (j := 21) rfl)
theorem dR_keptNow_22 : decode (mcc mR_keptNow) 22 = .ok (.iload_n 2, 1) := o28 (byt_of hR_keptNow_b0 (j := 22) rfl)
theorem dR_keptNow_23 : decode (mcc mR_keptNow) 23 = .ok (.ishl, 1) := o120 (byt_of hR_keptNow_b0 (j := 23) rfl)
theorem dR_keptNow_24 : decode (mcc mR_keptNow) 24 = .ok (.goto 4, 3) := o167 (a := 0) (b := 4) (byt_of hR_keptNow_b0 (j := 24) rfl) (byt_of hR_keptNow_b0 (j := 25) rfl) (byt_of hR_keptNow_b0 (j := 26) rfl) rfl
theorem dR_keptNow_27 : decode (mcc mR_keptNow) 27 = .ok (.iconst 0, 1) := o3 (byt_of hR_keptNow_b0 (j := 27) rfl)
theorem dR_keptNow_28 : decode (mcc mR_keptNow) 28 = .ok (.ior, 1) := o128 (byt_of hR_keptNow_b0 (j := 28) rfl)
theorem dR_keptNow_29 : decode (mcc mR_keptNow) 29 = .ok (.istore_n 1, 1) := o60 (byt_of hR_keptNow_b0 (j := 29) rfl)
theorem dR_keptNow_30 : decode (mcc mR_keptNow) 30 = .ok (.iinc 2 1, 3) := o132 (a := 2) (b := 1) (byt_of hR_keptNow_b0 (j := 30) rfl) (byt_of hR_keptNow_b0 (j := 31) rfl) (byt_of hR_keptNow_b0 (j := 32) rfl) rfl
theorem dR_keptNow_33 : decode (mcc mR_keptNow) 33 = .ok (.goto (-29), 3) := o167 (a := 255) (b := 227) (byt_of hR_keptNow_b0 (j := 33) rfl) (byt_of hR_keptNow_b0 (j := 34) rfl) (byt_of hR_keptNow_b0 (j := 35) rfl) rfl
theorem dR_keptNow_36 : decode (mcc mR_keptNow) 36 = .ok (.iload_n 1, 1) := o27 (byt_of hR_keptNow_b0 (j := 36) rfl)
theorem dR_keptNow_37 : decode (mcc mR_keptNow) 37 = .ok (.ireturn, 1) := o172 (byt_of hR_keptNow_b0 (j := 37) rfl)
def bR_worthNow_b0 : List Nat := [3, 60, 3, 61, 28, 42, 180, 0, 155, 162, 0, 30, 27, 42, 28, 182, 1, 51, 153, 0, 12, 42, 180, 0, 50, 28, 46, 167, 0, 4, 3, 96, 60, 132, 2, 1, 167, 255, 224, 27, 172]
theorem hR_worthNow_b0 : BL (mcc mR_worthNow) 0 bR_worthNow_b0 := by decide +kernel
theorem dR_worthNow_0 : decode (mcc mR_worthNow) 0 = .ok (.iconst 0, 1) := o3 (byt_of hR_worthNow_b0 (j := 0) rfl)
theorem dR_worthNow_1 : decode (mcc mR_worthNow) 1 = .ok (.istore_n 1, 1) := o60 (byt_of hR_worthNow_b0 (j := 1) rfl)
theorem dR_worthNow_2 : decode (mcc mR_worthNow) 2 = .ok (.iconst 0, 1) := o3 (byt_of hR_worthNow_b0 (j := 2) rfl)
theorem dR_worthNow_3 : decode (mcc mR_worthNow) 3 = .ok (.istore_n 2, 1) := o61 (byt_of hR_worthNow_b0 (j := 3) rfl)
theorem dR_worthNow_4 : decode (mcc mR_worthNow) 4 = .ok (.iload_n 2, 1) := o28 (byt_of hR_worthNow_b0 (j := 4) rfl)
theorem dR_worthNow_5 : decode (mcc mR_worthNow) 5 = .ok (.aload_n 0, 1) := o42 (byt_of hR_worthNow_b0 (j := 5) rfl)
theorem dR_worthNow_6 : decode (mcc mR_worthNow) 6 = .ok (.getfield 155, 3) := o180 (a := 0) (b := 155) (byt_of hR_worthNow_b0 (j := 6) rfl) (byt_of hR_worthNow_b0 (j := 7) rfl) (byt_of hR_worthNow_b0 (j := 8) rfl) rfl
theorem dR_worthNow_9 : decode (mcc mR_worthNow) 9 = .ok (.if_icmp .ge 30, 3) := o162 (a := 0) (b := 30) (byt_of hR_worthNow_b0 (j := 9) rfl) (byt_of hR_worthNow_b0 (j := 10) rfl) (byt_of hR_worthNow_b0 (j := 11) rfl) rfl
theorem dR_worthNow_12 : decode (mcc mR_worthNow) 12 = .ok (.iload_n 1, 1) := o27 (byt_of hR_worthNow_b0 (j := 12) rfl)
theorem dR_worthNow_13 : decode (mcc mR_worthNow) 13 = .ok (.aload_n 0, 1) := o42 (byt_of hR_worthNow_b0 (j := 13) rfl)
theorem dR_worthNow_14 : decode (mcc mR_worthNow) 14 = .ok (.iload_n 2, 1) := o28 (byt_of hR_worthNow_b0 (j := 14) rfl)
theorem dR_worthNow_15 : decode (mcc mR_worthNow) 15 = .ok (.invokevirtual 307, 3) := o182 (a := 1) (b := 51) (byt_of hR_worthNow_b0 (j := 15) rfl) (byt_of hR_worthNow_b0 (j := 16) rfl) (byt_of hR_worthNow_b0 (j := 17) rfl) rfl
theorem dR_worthNow_18 : decode (mcc mR_worthNow) 18 = .ok (.ifCond .eq 12, 3) := o153 (a := 0) (b := 12) (byt_of hR_worthNow_b0 (j := 18) rfl) (byt_of hR_worthNow_b0 (j := 19) rfl) (byt_of hR_worthNow_b0 (j := 20) rfl) rfl
theorem dR_worthNow_21 : decode (mcc mR_worthNow) 21 = .ok (.aload_n 0, 1) := o42 (byt_of hR_worthNow_b0 (j := 21) rfl)
theorem dR_worthNow_22 : decode (mcc mR_worthNow) 22 = .ok (.getfield 50, 3) := o180 (a := 0) (b := 50) (byt_of hR_worthNow_b0 (j := 22) rfl) (byt_of hR_worthNow_b0 (j := 23) rfl) (byt_of hR_worthNow_b0 (j := 24) rfl) rfl
theorem dR_worthNow_25 : decode (mcc mR_worthNow) 25 = .ok (.iload_n 2, 1) := o28 (byt_of hR_worthNow_b0 (j := 25) rfl)
theorem dR_worthNow_26 : decode (mcc mR_worthNow) 26 = .ok (.iaload, 1) := o46 (byt_of hR_worthNow_b0 (j := 26) rfl)
theorem dR_worthNow_27 : decode (mcc mR_worthNow) 27 = .ok (.goto 4, 3) := o167 (a := 0) (b := 4) (byt_of hR_worthNow_b0 (j := 27) rfl) (byt_of hR_worthNow_b0 (j := 28) rfl) (byt_of hR_worthNow_b0 (j := 29) rfl) rfl
theorem dR_worthNow_30 : decode (mcc mR_worthNow) 30 = .ok (.iconst 0, 1) := o3 (byt_of hR_worthNow_b0 (j := 30) rfl)
theorem dR_worthNow_31 : decode (mcc mR_worthNow) 31 = .ok (.iadd, 1) := o96 (byt_of hR_worthNow_b0 (j := 31) rfl)
theorem dR_worthNow_32 : decode (mcc mR_worthNow) 32 = .ok (.istore_n 1, 1) := o60 (byt_of hR_worthNow_b0 (j := 32) rfl)
theorem dR_worthNow_33 : decode (mcc mR_worthNow) 33 = .ok (.iinc 2 1, 3) := o132 (a := 2) (b := 1) (byt_of hR_worthNow_b0 (j := 33) rfl) (byt_of hR_worthNow_b0 (j := 34) rfl) (byt_of hR_worthNow_b0 (j := 35) rfl) rfl
theorem dR_worthNow_36 : decode (mcc mR_worthNow) 36 = .ok (.goto (-32), 3) := o167 (a := 255) (b := 224) (byt_of hR_worthNow_b0 (j := 36) rfl) (byt_of hR_worthNow_b0 (j := 37) rfl) (byt_of hR_worthNow_b0 (j := 38) rfl) rfl
theorem dR_worthNow_39 : decode (mcc mR_worthNow) 39 = .ok (.iload_n 1, 1) := o27 (byt_of hR_worthNow_b0 (j := 39) rfl)
theorem dR_worthNow_40 : decode (mcc mR_worthNow) 40 = .ok (.ireturn, 1) := o172 (byt_of hR_worthNow_b0 (j := 40) rfl)
def bR_painNow_b0 : List Nat := [3, 60, 3, 61, 28, 42, 180, 0, 148, 162, 0, 17, 27, 42, 28, 182, 1, 45, 96, 60, 132, 2, 1, 167, 255, 237, 27, 172]
theorem hR_painNow_b0 : BL (mcc mR_painNow) 0 bR_painNow_b0 := by decide +kernel
theorem dR_painNow_0 : decode (mcc mR_painNow) 0 = .ok (.iconst 0, 1) := o3 (byt_of hR_painNow_b0 (j := 0) rfl)
theorem dR_painNow_1 : decode (mcc mR_painNow) 1 = .ok (.istore_n 1, 1) := o60 (byt_of hR_painNow_b0 (j := 1) rfl)
theorem dR_painNow_2 : decode (mcc mR_painNow) 2 = .ok (.iconst 0, 1) := o3 (byt_of hR_painNow_b0 (j := 2) rfl)
theorem dR_painNow_3 : decode (mcc mR_painNow) 3 = .ok (.istore_n 2, 1) := o61 (byt_of hR_painNow_b0 (j := 3) rfl)
theorem dR_painNow_4 : decode (mcc mR_painNow) 4 = .ok (.iload_n 2, 1) := o28 (byt_of hR_painNow_b0 (j := 4) rfl)
theorem dR_painNow_5 : decode (mcc mR_painNow) 5 = .ok (.aload_n 0, 1) := o42 (byt_of hR_painNow_b0 (j := 5) rfl)
theorem dR_painNow_6 : decode (mcc mR_painNow) 6 = .ok (.getfield 148, 3) := o180 (a := 0) (b := 148) (byt_of hR_painNow_b0 (j := 6) rfl) (byt_of hR_painNow_b0 (j := 7) rfl) (byt_of hR_painNow_b0 (j := 8) rfl) rfl
theorem dR_painNow_9 : decode (mcc mR_painNow) 9 = .ok (.if_icmp .ge 17, 3) := o162 (a := 0) (b := 17) (byt_of hR_painNow_b0 (j := 9) rfl) (byt_of hR_painNow_b0 (j := 10) rfl) (byt_of hR_painNow_b0 (j := 11) rfl) rfl
theorem dR_painNow_12 : decode (mcc mR_painNow) 12 = .ok (.iload_n 1, 1) := o27 (byt_of hR_painNow_b0 (j := 12) rfl)
theorem dR_painNow_13 : decode (mcc mR_painNow) 13 = .ok (.aload_n 0, 1) := o42 (byt_of hR_painNow_b0 (j := 13) rfl)
theorem dR_painNow_14 : decode (mcc mR_painNow) 14 = .ok (.iload_n 2, 1) := o28 (byt_of hR_painNow_b0 (j := 14) rfl)
theorem dR_painNow_15 : decode (mcc mR_painNow) 15 = .ok (.invokevirtual 301, 3) := o182 (a := 1) (b := 45) (byt_of hR_painNow_b0 (j := 15) rfl) (byt_of hR_painNow_b0 (j := 16) rfl) (byt_of hR_painNow_b0 (j := 17) rfl) rfl
theorem dR_painNow_18 : decode (mcc mR_painNow) 18 = .ok (.iadd, 1) := o96 (byt_of hR_painNow_b0 (j := 18) rfl)
theorem dR_painNow_19 : decode (mcc mR_painNow) 19 = .ok (.istore_n 1, 1) := o60 (byt_of hR_painNow_b0 (j := 19) rfl)
theorem dR_painNow_20 : decode (mcc mR_painNow) 20 = .ok (.iinc 2 1, 3) := o132 (a := 2) (b := 1) (byt_of hR_painNow_b0 (j := 20) rfl) (byt_of hR_painNow_b0 (j := 21) rfl) (byt_of hR_painNow_b0 (j := 22) rfl) rfl
theorem dR_painNow_23 : decode (mcc mR_painNow) 23 = .ok (.goto (-19), 3) := o167 (a := 255) (b := 237) (byt_of hR_painNow_b0 (j := 23) rfl) (byt_of hR_painNow_b0 (j := 24) rfl) (byt_of hR_painNow_b0 (j := 25) rfl) rfl
theorem dR_painNow_26 : decode (mcc mR_painNow) 26 = .ok (.iload_n 1, 1) := o27 (byt_of hR_painNow_b0 (j := 26) rfl)
theorem dR_painNow_27 : decode (mcc mR_painNow) 27 = .ok (.ireturn, 1) := o172 (byt_of hR_painNow_b0 (j := 27) rfl)
def bR_sum_b0 : List Nat := [27, 3, 6, 184, 0, 151, 154, 0, 6, 16, 254, 172, 42, 42, 180, 0, 158, 182, 1, 39, 3, 61, 3, 62, 29, 42, 180, 0, 148, 162, 0, 33, 28, 42, 29, 182, 1, 42, 42, 180, 0, 38, 29, 46, 160, 0, 9, 4, 29, 120, 167, 0, 4, 3, 128, 61, 132, 3, 1, 167, 255, 221, 27, 154, 0, 10, 42, 182, 1, 54, 167, 0, 28, 27, 4, 160, 0, 10, 42, 182, 1, 57, 167, 0, 16, 27, 5, 160, 0, 10, 42, 182, 1, 60, 167, 0, 4, 28, 172]
theorem hR_sum_b0 : BL (mcc mR_sum) 0 bR_sum_b0 := by decide +kernel
theorem dR_sum_0 : decode (mcc mR_sum) 0 = .ok (.iload_n 1, 1) := o27 (byt_of hR_sum_b0 (j := 0) rfl)
theorem dR_sum_1 : decode (mcc mR_sum) 1 = .ok (.iconst 0, 1) := o3 (byt_of hR_sum_b0 (j := 1) rfl)
theorem dR_sum_2 : decode (mcc mR_sum) 2 = .ok (.iconst 3, 1) := o6 (byt_of hR_sum_b0 (j := 2) rfl)
theorem dR_sum_3 : decode (mcc mR_sum) 3 = .ok (.invokestatic 151, 3) := o184 (a := 0) (b := 151) (byt_of hR_sum_b0 (j := 3) rfl) (byt_of hR_sum_b0 (j := 4) rfl) (byt_of hR_sum_b0 (j := 5) rfl) rfl
theorem dR_sum_6 : decode (mcc mR_sum) 6 = .ok (.ifCond .ne 6, 3) := o154 (a := 0) (b := 6) (byt_of hR_sum_b0 (j := 6) rfl) (byt_of hR_sum_b0 (j := 7) rfl) (byt_of hR_sum_b0 (j := 8) rfl) rfl
theorem dR_sum_9 : decode (mcc mR_sum) 9 = .ok (.bipush (-2), 2) := o16 (a := 254) (byt_of hR_sum_b0 (j := 9) rfl) (byt_of hR_sum_b0 (j := 10) rfl) rfl
theorem dR_sum_11 : decode (mcc mR_sum) 11 = .ok (.ireturn, 1) := o172 (byt_of hR_sum_b0 (j := 11) rfl)
theorem dR_sum_12 : decode (mcc mR_sum) 12 = .ok (.aload_n 0, 1) := o42 (byt_of hR_sum_b0 (j := 12) rfl)
theorem dR_sum_13 : decode (mcc mR_sum) 13 = .ok (.aload_n 0, 1) := o42 (byt_of hR_sum_b0 (j := 13) rfl)
theorem dR_sum_14 : decode (mcc mR_sum) 14 = .ok (.getfield 158, 3) := o180 (a := 0) (b := 158) (byt_of hR_sum_b0 (j := 14) rfl) (byt_of hR_sum_b0 (j := 15) rfl) (byt_of hR_sum_b0 (j := 16) rfl) rfl
theorem dR_sum_17 : decode (mcc mR_sum) 17 = .ok (.invokevirtual 295, 3) := o182 (a := 1) (b := 39) (byt_of hR_sum_b0 (j := 17) rfl) (byt_of hR_sum_b0 (j := 18) rfl) (byt_of hR_sum_b0 (j := 19) rfl) rfl
theorem dR_sum_20 : decode (mcc mR_sum) 20 = .ok (.iconst 0, 1) := o3 (byt_of hR_sum_b0 (j := 20) rfl)
theorem dR_sum_21 : decode (mcc mR_sum) 21 = .ok (.istore_n 2, 1) := o61 (byt_of hR_sum_b0 (j := 21) rfl)
theorem dR_sum_22 : decode (mcc mR_sum) 22 = .ok (.iconst 0, 1) := o3 (byt_of hR_sum_b0 (j := 22) rfl)
theorem dR_sum_23 : decode (mcc mR_sum) 23 = .ok (.istore_n 3, 1) := o62 (byt_of hR_sum_b0 (j := 23) rfl)
theorem dR_sum_24 : decode (mcc mR_sum) 24 = .ok (.iload_n 3, 1) := o29 (byt_of hR_sum_b0 (j := 24) rfl)
theorem dR_sum_25 : decode (mcc mR_sum) 25 = .ok (.aload_n 0, 1) := o42 (byt_of hR_sum_b0 (j := 25) rfl)
theorem dR_sum_26 : decode (mcc mR_sum) 26 = .ok (.getfield 148, 3) := o180 (a := 0) (b := 148) (byt_of hR_sum_b0 (j := 26) rfl) (byt_of hR_sum_b0 (j := 27) rfl) (byt_of hR_sum_b0 (j := 28) rfl) rfl
theorem dR_sum_29 : decode (mcc mR_sum) 29 = .ok (.if_icmp .ge 33, 3) := o162 (a := 0) (b := 33) (byt_of hR_sum_b0 (j := 29) rfl) (byt_of hR_sum_b0 (j := 30) rfl) (byt_of hR_sum_b0 (j := 31) rfl) rfl
theorem dR_sum_32 : decode (mcc mR_sum) 32 = .ok (.iload_n 2, 1) := o28 (byt_of hR_sum_b0 (j := 32) rfl)
theorem dR_sum_33 : decode (mcc mR_sum) 33 = .ok (.aload_n 0, 1) := o42 (byt_of hR_sum_b0 (j := 33) rfl)
theorem dR_sum_34 : decode (mcc mR_sum) 34 = .ok (.iload_n 3, 1) := o29 (byt_of hR_sum_b0 (j := 34) rfl)
theorem dR_sum_35 : decode (mcc mR_sum) 35 = .ok (.invokevirtual 298, 3) := o182 (a := 1) (b := 42) (byt_of hR_sum_b0 (j := 35) rfl) (byt_of hR_sum_b0 (j := 36) rfl) (byt_of hR_sum_b0 (j := 37) rfl) rfl
theorem dR_sum_38 : decode (mcc mR_sum) 38 = .ok (.aload_n 0, 1) := o42 (byt_of hR_sum_b0 (j := 38) rfl)
theorem dR_sum_39 : decode (mcc mR_sum) 39 = .ok (.getfield 38, 3) := o180 (a := 0) (b := 38) (byt_of hR_sum_b0 (j := 39) rfl) (byt_of hR_sum_b0 (j := 40) rfl) (byt_of hR_sum_b0 (j := 41) rfl) rfl
theorem dR_sum_42 : decode (mcc mR_sum) 42 = .ok (.iload_n 3, 1) := o29 (byt_of hR_sum_b0 (j := 42) rfl)
theorem dR_sum_43 : decode (mcc mR_sum) 43 = .ok (.iaload, 1) := o46 (byt_of hR_sum_b0 (j := 43) rfl)
theorem dR_sum_44 : decode (mcc mR_sum) 44 = .ok (.if_icmp .ne 9, 3) := o160 (a := 0) (b := 9) (byt_of hR_sum_b0 (j := 44) rfl) (byt_of hR_sum_b0 (j := 45) rfl) (byt_of hR_sum_b0 (j := 46) rfl) rfl
theorem dR_sum_47 : decode (mcc mR_sum) 47 = .ok (.iconst 1, 1) := o4 (byt_of hR_sum_b0 (j := 47) rfl)
theorem dR_sum_48 : decode (mcc mR_sum) 48 = .ok (.iload_n 3, 1) := o29 (byt_of hR_sum_b0 (j := 48) rfl)
theorem dR_sum_49 : decode (mcc mR_sum) 49 = .ok (.ishl, 1) := o120 (byt_of hR_sum_b0 (j := 49) rfl)
theorem dR_sum_50 : decode (mcc mR_sum) 50 = .ok (.goto 4, 3) := o167 (a := 0) (b := 4) (byt_of hR_sum_b0 (j := 50) rfl) (byt_of hR_sum_b0 (j := 51) rfl) (byt_of hR_sum_b0 (j := 52) rfl) rfl
theorem dR_sum_53 : decode (mcc mR_sum) 53 = .ok (.iconst 0, 1) := o3 (byt_of hR_sum_b0 (j := 53) rfl)
theorem dR_sum_54 : decode (mcc mR_sum) 54 = .ok (.ior, 1) := o128 (byt_of hR_sum_b0 (j := 54) rfl)
theorem dR_sum_55 : decode (mcc mR_sum) 55 = .ok (.istore_n 2, 1) := o61 (byt_of hR_sum_b0 (j := 55) rfl)
theorem dR_sum_56 : decode (mcc mR_sum) 56 = .ok (.iinc 3 1, 3) := o132 (a := 3) (b := 1) (byt_of hR_sum_b0 (j := 56) rfl) (byt_of hR_sum_b0 (j := 57) rfl) (byt_of hR_sum_b0 (j := 58) rfl) rfl
theorem dR_sum_59 : decode (mcc mR_sum) 59 = .ok (.goto (-35), 3) := o167 (a := 255) (b := 221) (byt_of hR_sum_b0 (j := 59) rfl) (byt_of hR_sum_b0 (j := 60) rfl) (byt_of hR_sum_b0 (j := 61) rfl) rfl
theorem dR_sum_62 : decode (mcc mR_sum) 62 = .ok (.iload_n 1, 1) := o27 (byt_of hR_sum_b0 (j := 62) rfl)
theorem dR_sum_63 : decode (mcc mR_sum) 63 = .ok (.ifCond .ne 10, 3) := o154 (a := 0) (b := 10) (byt_of hR_sum_b0 (j := 63) rfl) (byt_of hR_sum_b0 (j := 64) rfl) (byt_of hR_sum_b0 (j := 65) rfl) rfl
theorem dR_sum_66 : decode (mcc mR_sum) 66 = .ok (.aload_n 0, 1) := o42 (byt_of hR_sum_b0 (j := 66) rfl)
theorem dR_sum_67 : decode (mcc mR_sum) 67 = .ok (.invokevirtual 310, 3) := o182 (a := 1) (b := 54) (byt_of hR_sum_b0 (j := 67) rfl) (byt_of hR_sum_b0 (j := 68) rfl) (byt_of hR_sum_b0 (j := 69) rfl) rfl
theorem dR_sum_70 : decode (mcc mR_sum) 70 = .ok (.goto 28, 3) := o167 (a := 0) (b := 28) (byt_of hR_sum_b0 (j := 70) rfl) (byt_of hR_sum_b0 (j := 71) rfl) (byt_of hR_sum_b0 (j := 72) rfl) rfl
theorem dR_sum_73 : decode (mcc mR_sum) 73 = .ok (.iload_n 1, 1) := o27 (byt_of hR_sum_b0 (j := 73) rfl)
theorem dR_sum_74 : decode (mcc mR_sum) 74 = .ok (.iconst 1, 1) := o4 (byt_of hR_sum_b0 (j := 74) rfl)
theorem dR_sum_75 : decode (mcc mR_sum) 75 = .ok (.if_icmp .ne 10, 3) := o160 (a := 0) (b := 10) (byt_of hR_sum_b0 (j := 75) rfl) (byt_of hR_sum_b0 (j := 76) rfl) (byt_of hR_sum_b0 (j := 77) rfl) rfl
theorem dR_sum_78 : decode (mcc mR_sum) 78 = .ok (.aload_n 0, 1) := o42 (byt_of hR_sum_b0 (j := 78) rfl)
theorem dR_sum_79 : decode (mcc mR_sum) 79 = .ok (.invokevirtual 313, 3) := o182 (a := 1) (b := 57) (byt_of hR_sum_b0 (j := 79) rfl) (byt_of hR_sum_b0 (j := 80) rfl) (byt_of hR_sum_b0 (j := 81) rfl) rfl
theorem dR_sum_82 : decode (mcc mR_sum) 82 = .ok (.goto 16, 3) := o167 (a := 0) (b := 16) (byt_of hR_sum_b0 (j := 82) rfl) (byt_of hR_sum_b0 (j := 83) rfl) (byt_of hR_sum_b0 (j := 84) rfl) rfl
theorem dR_sum_85 : decode (mcc mR_sum) 85 = .ok (.iload_n 1, 1) := o27 (byt_of hR_sum_b0 (j := 85) rfl)
theorem dR_sum_86 : decode (mcc mR_sum) 86 = .ok (.iconst 2, 1) := o5 (byt_of hR_sum_b0 (j := 86) rfl)
theorem dR_sum_87 : decode (mcc mR_sum) 87 = .ok (.if_icmp .ne 10, 3) := o160 (a := 0) (b := 10) (byt_of hR_sum_b0 (j := 87) rfl) (byt_of hR_sum_b0 (j := 88) rfl) (byt_of hR_sum_b0 (j := 89) rfl) rfl
theorem dR_sum_90 : decode (mcc mR_sum) 90 = .ok (.aload_n 0, 1) := o42 (byt_of hR_sum_b0 (j := 90) rfl)
theorem dR_sum_91 : decode (mcc mR_sum) 91 = .ok (.invokevirtual 316, 3) := o182 (a := 1) (b := 60) (byt_of hR_sum_b0 (j := 91) rfl) (byt_of hR_sum_b0 (j := 92) rfl) (byt_of hR_sum_b0 (j := 93) rfl) rfl
theorem dR_sum_94 : decode (mcc mR_sum) 94 = .ok (.goto 4, 3) := o167 (a := 0) (b := 4) (byt_of hR_sum_b0 (j := 94) rfl) (byt_of hR_sum_b0 (j := 95) rfl) (byt_of hR_sum_b0 (j := 96) rfl) rfl
def bR_sum_b1 : List Nat := [4, 28, 172]
theorem hR_sum_b1 : BL (mcc mR_sum) 96 bR_sum_b1 := by decide +kernel
theorem dR_sum_97 : decode (mcc mR_sum) 97 = .ok (.iload_n 2, 1) := o28 (byt_of hR_sum_b1 (j := 1) rfl)
theorem dR_sum_98 : decode (mcc mR_sum) 98 = .ok (.ireturn, 1) := o172 (byt_of hR_sum_b1 (j := 2) rfl)
def bR_wayTo_b0 : List Nat := [42, 180, 0, 7, 16, 6, 42, 180, 0, 59, 27, 4, 100, 46, 104, 42, 180, 0, 59, 27, 46, 96, 46, 172]
theorem hR_wayTo_b0 : BL (mcc mR_wayTo) 0 bR_wayTo_b0 := by decide +kernel
theorem dR_wayTo_0 : decode (mcc mR_wayTo) 0 = .ok (.aload_n 0, 1) := o42 (byt_of hR_wayTo_b0 (j := 0) rfl)
theorem dR_wayTo_1 : decode (mcc mR_wayTo) 1 = .ok (.getfield 7, 3) := o180 (a := 0) (b := 7) (byt_of hR_wayTo_b0 (j := 1) rfl) (byt_of hR_wayTo_b0 (j := 2) rfl) (byt_of hR_wayTo_b0 (j := 3) rfl) rfl
theorem dR_wayTo_4 : decode (mcc mR_wayTo) 4 = .ok (.bipush 6, 2) := o16 (a := 6) (byt_of hR_wayTo_b0 (j := 4) rfl) (byt_of hR_wayTo_b0 (j := 5) rfl) rfl
theorem dR_wayTo_6 : decode (mcc mR_wayTo) 6 = .ok (.aload_n 0, 1) := o42 (byt_of hR_wayTo_b0 (j := 6) rfl)
theorem dR_wayTo_7 : decode (mcc mR_wayTo) 7 = .ok (.getfield 59, 3) := o180 (a := 0) (b := 59) (byt_of hR_wayTo_b0 (j := 7) rfl) (byt_of hR_wayTo_b0 (j := 8) rfl) (byt_of hR_wayTo_b0 (j := 9) rfl) rfl
theorem dR_wayTo_10 : decode (mcc mR_wayTo) 10 = .ok (.iload_n 1, 1) := o27 (byt_of hR_wayTo_b0 (j := 10) rfl)
theorem dR_wayTo_11 : decode (mcc mR_wayTo) 11 = .ok (.iconst 1, 1) := o4 (byt_of hR_wayTo_b0 (j := 11) rfl)
theorem dR_wayTo_12 : decode (mcc mR_wayTo) 12 = .ok (.isub, 1) := o100 (byt_of hR_wayTo_b0 (j := 12) rfl)
theorem dR_wayTo_13 : decode (mcc mR_wayTo) 13 = .ok (.iaload, 1) := o46 (byt_of hR_wayTo_b0 (j := 13) rfl)
theorem dR_wayTo_14 : decode (mcc mR_wayTo) 14 = .ok (.imul, 1) := o104 (byt_of hR_wayTo_b0 (j := 14) rfl)
theorem dR_wayTo_15 : decode (mcc mR_wayTo) 15 = .ok (.aload_n 0, 1) := o42 (byt_of hR_wayTo_b0 (j := 15) rfl)
theorem dR_wayTo_16 : decode (mcc mR_wayTo) 16 = .ok (.getfield 59, 3) := o180 (a := 0) (b := 59) (byt_of hR_wayTo_b0 (j := 16) rfl) (byt_of hR_wayTo_b0 (j := 17) rfl) (byt_of hR_wayTo_b0 (j := 18) rfl) rfl
theorem dR_wayTo_19 : decode (mcc mR_wayTo) 19 = .ok (.iload_n 1, 1) := o27 (byt_of hR_wayTo_b0 (j := 19) rfl)
theorem dR_wayTo_20 : decode (mcc mR_wayTo) 20 = .ok (.iaload, 1) := o46 (byt_of hR_wayTo_b0 (j := 20) rfl)
theorem dR_wayTo_21 : decode (mcc mR_wayTo) 21 = .ok (.iadd, 1) := o96 (byt_of hR_wayTo_b0 (j := 21) rfl)
theorem dR_wayTo_22 : decode (mcc mR_wayTo) 22 = .ok (.iaload, 1) := o46 (byt_of hR_wayTo_b0 (j := 22) rfl)
theorem dR_wayTo_23 : decode (mcc mR_wayTo) 23 = .ok (.ireturn, 1) := o172 (byt_of hR_wayTo_b0 (j := 23) rfl)
def bR_judge_b0 : List Nat := [4, 60, 27, 42, 180, 0, 158, 162, 0, 45, 42, 180, 0, 62, 27, 46, 42, 180, 0, 62, 27, 4, 100, 46, 100, 61, 28, 155, 0, 17, 42, 27, 182, 1, 63, 42, 180, 0, 16, 28, 104, 164, 0, 5, 27, 172, 132, 1, 1, 167, 255, 209, 2, 172]
theorem hR_judge_b0 : BL (mcc mR_judge) 0 bR_judge_b0 := by decide +kernel
theorem dR_judge_0 : decode (mcc mR_judge) 0 = .ok (.iconst 1, 1) := o4 (byt_of hR_judge_b0 (j := 0) rfl)
theorem dR_judge_1 : decode (mcc mR_judge) 1 = .ok (.istore_n 1, 1) := o60 (byt_of hR_judge_b0 (j := 1) rfl)
theorem dR_judge_2 : decode (mcc mR_judge) 2 = .ok (.iload_n 1, 1) := o27 (byt_of hR_judge_b0 (j := 2) rfl)
theorem dR_judge_3 : decode (mcc mR_judge) 3 = .ok (.aload_n 0, 1) := o42 (byt_of hR_judge_b0 (j := 3) rfl)
theorem dR_judge_4 : decode (mcc mR_judge) 4 = .ok (.getfield 158, 3) := o180 (a := 0) (b := 158) (byt_of hR_judge_b0 (j := 4) rfl) (byt_of hR_judge_b0 (j := 5) rfl) (byt_of hR_judge_b0 (j := 6) rfl) rfl
theorem dR_judge_7 : decode (mcc mR_judge) 7 = .ok (.if_icmp .ge 45, 3) := o162 (a := 0) (b := 45) (byt_of hR_judge_b0 (j := 7) rfl) (byt_of hR_judge_b0 (j := 8) rfl) (byt_of hR_judge_b0 (j := 9) rfl) rfl
theorem dR_judge_10 : decode (mcc mR_judge) 10 = .ok (.aload_n 0, 1) := o42 (byt_of hR_judge_b0 (j := 10) rfl)
theorem dR_judge_11 : decode (mcc mR_judge) 11 = .ok (.getfield 62, 3) := o180 (a := 0) (b := 62) (byt_of hR_judge_b0 (j := 11) rfl) (byt_of hR_judge_b0 (j := 12) rfl) (byt_of hR_judge_b0 (j := 13) rfl) rfl
theorem dR_judge_14 : decode (mcc mR_judge) 14 = .ok (.iload_n 1, 1) := o27 (byt_of hR_judge_b0 (j := 14) rfl)
theorem dR_judge_15 : decode (mcc mR_judge) 15 = .ok (.iaload, 1) := o46 (byt_of hR_judge_b0 (j := 15) rfl)
theorem dR_judge_16 : decode (mcc mR_judge) 16 = .ok (.aload_n 0, 1) := o42 (byt_of hR_judge_b0 (j := 16) rfl)
theorem dR_judge_17 : decode (mcc mR_judge) 17 = .ok (.getfield 62, 3) := o180 (a := 0) (b := 62) (byt_of hR_judge_b0 (j := 17) rfl) (byt_of hR_judge_b0 (j := 18) rfl) (byt_of hR_judge_b0 (j := 19) rfl) rfl
theorem dR_judge_20 : decode (mcc mR_judge) 20 = .ok (.iload_n 1, 1) := o27 (byt_of hR_judge_b0 (j := 20) rfl)
theorem dR_judge_21 : decode (mcc mR_judge) 21 = .ok (.iconst 1, 1) := o4 (byt_of hR_judge_b0 (j := 21) rfl)
theorem dR_judge_22 : decode (mcc mR_judge) 22 = .ok (.isub, 1) := o100 (byt_of hR_judge_b0 (j := 22) rfl)
theorem dR_judge_23 : decode (mcc mR_judge) 23 = .ok (.iaload, 1) := o46 (byt_of hR_judge_b0 (j := 23) rfl)
theorem dR_judge_24 : decode (mcc mR_judge) 24 = .ok (.isub, 1) := o100 (byt_of hR_judge_b0 (j := 24) rfl)
theorem dR_judge_25 : decode (mcc mR_judge) 25 = .ok (.istore_n 2, 1) := o61 (byt_of hR_judge_b0 (j := 25) rfl)
theorem dR_judge_26 : decode (mcc mR_judge) 26 = .ok (.iload_n 2, 1) := o28 (byt_of hR_judge_b0 (j := 26) rfl)
theorem dR_judge_27 : decode (mcc mR_judge) 27 = .ok (.ifCond .lt 17, 3) := o155 (a := 0) (b := 17) (byt_of hR_judge_b0 (j := 27) rfl) (byt_of hR_judge_b0 (j := 28) rfl) (byt_of hR_judge_b0 (j := 29) rfl) rfl
theorem dR_judge_30 : decode (mcc mR_judge) 30 = .ok (.aload_n 0, 1) := o42 (byt_of hR_judge_b0 (j := 30) rfl)
theorem dR_judge_31 : decode (mcc mR_judge) 31 = .ok (.iload_n 1, 1) := o27 (byt_of hR_judge_b0 (j := 31) rfl)
theorem dR_judge_32 : decode (mcc mR_judge) 32 = .ok (.invokevirtual 319, 3) := o182 (a := 1) (b := 63) (byt_of hR_judge_b0 (j := 32) rfl) (byt_of hR_judge_b0 (j := 33) rfl) (byt_of hR_judge_b0 (j := 34) rfl) rfl
theorem dR_judge_35 : decode (mcc mR_judge) 35 = .ok (.aload_n 0, 1) := o42 (byt_of hR_judge_b0 (j := 35) rfl)
theorem dR_judge_36 : decode (mcc mR_judge) 36 = .ok (.getfield 16, 3) := o180 (a := 0) (b := 16) (byt_of hR_judge_b0 (j := 36) rfl) (byt_of hR_judge_b0 (j := 37) rfl) (byt_of hR_judge_b0 (j := 38) rfl) rfl
theorem dR_judge_39 : decode (mcc mR_judge) 39 = .ok (.iload_n 2, 1) := o28 (byt_of hR_judge_b0 (j := 39) rfl)
theorem dR_judge_40 : decode (mcc mR_judge) 40 = .ok (.imul, 1) := o104 (byt_of hR_judge_b0 (j := 40) rfl)
theorem dR_judge_41 : decode (mcc mR_judge) 41 = .ok (.if_icmp .le 5, 3) := o164 (a := 0) (b := 5) (byt_of hR_judge_b0 (j := 41) rfl) (byt_of hR_judge_b0 (j := 42) rfl) (byt_of hR_judge_b0 (j := 43) rfl) rfl
theorem dR_judge_44 : decode (mcc mR_judge) 44 = .ok (.iload_n 1, 1) := o27 (byt_of hR_judge_b0 (j := 44) rfl)
theorem dR_judge_45 : decode (mcc mR_judge) 45 = .ok (.ireturn, 1) := o172 (byt_of hR_judge_b0 (j := 45) rfl)
theorem dR_judge_46 : decode (mcc mR_judge) 46 = .ok (.iinc 1 1, 3) := o132 (a := 1) (b := 1) (byt_of hR_judge_b0 (j := 46) rfl) (byt_of hR_judge_b0 (j := 47) rfl) (byt_of hR_judge_b0 (j := 48) rfl) rfl
theorem dR_judge_49 : decode (mcc mR_judge) 49 = .ok (.goto (-47), 3) := o167 (a := 255) (b := 209) (byt_of hR_judge_b0 (j := 49) rfl) (byt_of hR_judge_b0 (j := 50) rfl) (byt_of hR_judge_b0 (j := 51) rfl) rfl
theorem dR_judge_52 : decode (mcc mR_judge) 52 = .ok (.iconst (-1), 1) := o2 (byt_of hR_judge_b0 (j := 52) rfl)
theorem dR_judge_53 : decode (mcc mR_judge) 53 = .ok (.ireturn, 1) := o172 (byt_of hR_judge_b0 (j := 53) rfl)
def bR_walk_b0 : List Nat := [3, 60, 4, 61, 28, 42, 180, 0, 158, 162, 0, 17, 27, 42, 28, 182, 1, 63, 96, 60, 132, 2, 1, 167, 255, 237, 27, 172]
theorem hR_walk_b0 : BL (mcc mR_walk) 0 bR_walk_b0 := by decide +kernel
theorem dR_walk_0 : decode (mcc mR_walk) 0 = .ok (.iconst 0, 1) := o3 (byt_of hR_walk_b0 (j := 0) rfl)
theorem dR_walk_1 : decode (mcc mR_walk) 1 = .ok (.istore_n 1, 1) := o60 (byt_of hR_walk_b0 (j := 1) rfl)
theorem dR_walk_2 : decode (mcc mR_walk) 2 = .ok (.iconst 1, 1) := o4 (byt_of hR_walk_b0 (j := 2) rfl)
theorem dR_walk_3 : decode (mcc mR_walk) 3 = .ok (.istore_n 2, 1) := o61 (byt_of hR_walk_b0 (j := 3) rfl)
theorem dR_walk_4 : decode (mcc mR_walk) 4 = .ok (.iload_n 2, 1) := o28 (byt_of hR_walk_b0 (j := 4) rfl)
theorem dR_walk_5 : decode (mcc mR_walk) 5 = .ok (.aload_n 0, 1) := o42 (byt_of hR_walk_b0 (j := 5) rfl)
theorem dR_walk_6 : decode (mcc mR_walk) 6 = .ok (.getfield 158, 3) := o180 (a := 0) (b := 158) (byt_of hR_walk_b0 (j := 6) rfl) (byt_of hR_walk_b0 (j := 7) rfl) (byt_of hR_walk_b0 (j := 8) rfl) rfl
theorem dR_walk_9 : decode (mcc mR_walk) 9 = .ok (.if_icmp .ge 17, 3) := o162 (a := 0) (b := 17) (byt_of hR_walk_b0 (j := 9) rfl) (byt_of hR_walk_b0 (j := 10) rfl) (byt_of hR_walk_b0 (j := 11) rfl) rfl
theorem dR_walk_12 : decode (mcc mR_walk) 12 = .ok (.iload_n 1, 1) := o27 (byt_of hR_walk_b0 (j := 12) rfl)
theorem dR_walk_13 : decode (mcc mR_walk) 13 = .ok (.aload_n 0, 1) := o42 (byt_of hR_walk_b0 (j := 13) rfl)
theorem dR_walk_14 : decode (mcc mR_walk) 14 = .ok (.iload_n 2, 1) := o28 (byt_of hR_walk_b0 (j := 14) rfl)
theorem dR_walk_15 : decode (mcc mR_walk) 15 = .ok (.invokevirtual 319, 3) := o182 (a := 1) (b := 63) (byt_of hR_walk_b0 (j := 15) rfl) (byt_of hR_walk_b0 (j := 16) rfl) (byt_of hR_walk_b0 (j := 17) rfl) rfl
theorem dR_walk_18 : decode (mcc mR_walk) 18 = .ok (.iadd, 1) := o96 (byt_of hR_walk_b0 (j := 18) rfl)
theorem dR_walk_19 : decode (mcc mR_walk) 19 = .ok (.istore_n 1, 1) := o60 (byt_of hR_walk_b0 (j := 19) rfl)
theorem dR_walk_20 : decode (mcc mR_walk) 20 = .ok (.iinc 2 1, 3) := o132 (a := 2) (b := 1) (byt_of hR_walk_b0 (j := 20) rfl) (byt_of hR_walk_b0 (j := 21) rfl) (byt_of hR_walk_b0 (j := 22) rfl) rfl
theorem dR_walk_23 : decode (mcc mR_walk) 23 = .ok (.goto (-19), 3) := o167 (a := 255) (b := 237) (byt_of hR_walk_b0 (j := 23) rfl) (byt_of hR_walk_b0 (j := 24) rfl) (byt_of hR_walk_b0 (j := 25) rfl) rfl
theorem dR_walk_26 : decode (mcc mR_walk) 26 = .ok (.iload_n 1, 1) := o27 (byt_of hR_walk_b0 (j := 26) rfl)
theorem dR_walk_27 : decode (mcc mR_walk) 27 = .ok (.ireturn, 1) := o172 (byt_of hR_walk_b0 (j := 27) rfl)
def bR_owesWith_b0 : List Nat := [42, 42, 180, 0, 158, 27, 28, 182, 0, 239, 42, 42, 180, 0, 158, 4, 96, 182, 1, 39, 177]
theorem hR_owesWith_b0 : BL (mcc mR_owesWith) 0 bR_owesWith_b0 := by decide +kernel
theorem dR_owesWith_0 : decode (mcc mR_owesWith) 0 = .ok (.aload_n 0, 1) := o42 (byt_of hR_owesWith_b0 (j := 0) rfl)
theorem dR_owesWith_1 : decode (mcc mR_owesWith) 1 = .ok (.aload_n 0, 1) := o42 (byt_of hR_owesWith_b0 (j := 1) rfl)
theorem dR_owesWith_2 : decode (mcc mR_owesWith) 2 = .ok (.getfield 158, 3) := o180 (a := 0) (b := 158) (byt_of hR_owesWith_b0 (j := 2) rfl) (byt_of hR_owesWith_b0 (j := 3) rfl) (byt_of hR_owesWith_b0 (j := 4) rfl) rfl
theorem dR_owesWith_5 : decode (mcc mR_owesWith) 5 = .ok (.iload_n 1, 1) := o27 (byt_of hR_owesWith_b0 (j := 5) rfl)
theorem dR_owesWith_6 : decode (mcc mR_owesWith) 6 = .ok (.iload_n 2, 1) := o28 (byt_of hR_owesWith_b0 (j := 6) rfl)
theorem dR_owesWith_7 : decode (mcc mR_owesWith) 7 = .ok (.invokevirtual 239, 3) := o182 (a := 0) (b := 239) (byt_of hR_owesWith_b0 (j := 7) rfl) (byt_of hR_owesWith_b0 (j := 8) rfl) (byt_of hR_owesWith_b0 (j := 9) rfl) rfl
theorem dR_owesWith_10 : decode (mcc mR_owesWith) 10 = .ok (.aload_n 0, 1) := o42 (byt_of hR_owesWith_b0 (j := 10) rfl)
theorem dR_owesWith_11 : decode (mcc mR_owesWith) 11 = .ok (.aload_n 0, 1) := o42 (byt_of hR_owesWith_b0 (j := 11) rfl)
theorem dR_owesWith_12 : decode (mcc mR_owesWith) 12 = .ok (.getfield 158, 3) := o180 (a := 0) (b := 158) (byt_of hR_owesWith_b0 (j := 12) rfl) (byt_of hR_owesWith_b0 (j := 13) rfl) (byt_of hR_owesWith_b0 (j := 14) rfl) rfl
theorem dR_owesWith_15 : decode (mcc mR_owesWith) 15 = .ok (.iconst 1, 1) := o4 (byt_of hR_owesWith_b0 (j := 15) rfl)
theorem dR_owesWith_16 : decode (mcc mR_owesWith) 16 = .ok (.iadd, 1) := o96 (byt_of hR_owesWith_b0 (j := 16) rfl)
theorem dR_owesWith_17 : decode (mcc mR_owesWith) 17 = .ok (.invokevirtual 295, 3) := o182 (a := 1) (b := 39) (byt_of hR_owesWith_b0 (j := 17) rfl) (byt_of hR_owesWith_b0 (j := 18) rfl) (byt_of hR_owesWith_b0 (j := 19) rfl) rfl
theorem dR_owesWith_20 : decode (mcc mR_owesWith) 20 = .ok (.return_, 1) := o177 (byt_of hR_owesWith_b0 (j := 20) rfl)
def bR_isHow_b0 : List Nat := [26, 16, 10, 108, 16, 10, 112, 8, 163, 0, 14, 26, 16, 10, 112, 158, 0, 7, 4, 167, 0, 4, 3, 172]
theorem hR_isHow_b0 : BL (mcc mR_isHow) 0 bR_isHow_b0 := by decide +kernel
theorem dR_isHow_0 : decode (mcc mR_isHow) 0 = .ok (.iload_n 0, 1) := o26 (byt_of hR_isHow_b0 (j := 0) rfl)
theorem dR_isHow_1 : decode (mcc mR_isHow) 1 = .ok (.bipush 10, 2) := o16 (a := 10) (byt_of hR_isHow_b0 (j := 1) rfl) (byt_of hR_isHow_b0 (j := 2) rfl) rfl
theorem dR_isHow_3 : decode (mcc mR_isHow) 3 = .ok (.idiv, 1) := o108 (byt_of hR_isHow_b0 (j := 3) rfl)
theorem dR_isHow_4 : decode (mcc mR_isHow) 4 = .ok (.bipush 10, 2) := o16 (a := 10) (byt_of hR_isHow_b0 (j := 4) rfl) (byt_of hR_isHow_b0 (j := 5) rfl) rfl
theorem dR_isHow_6 : decode (mcc mR_isHow) 6 = .ok (.irem, 1) := o112 (byt_of hR_isHow_b0 (j := 6) rfl)
theorem dR_isHow_7 : decode (mcc mR_isHow) 7 = .ok (.iconst 5, 1) := o8 (byt_of hR_isHow_b0 (j := 7) rfl)
theorem dR_isHow_8 : decode (mcc mR_isHow) 8 = .ok (.if_icmp .gt 14, 3) := o163 (a := 0) (b := 14) (byt_of hR_isHow_b0 (j := 8) rfl) (byt_of hR_isHow_b0 (j := 9) rfl) (byt_of hR_isHow_b0 (j := 10) rfl) rfl
theorem dR_isHow_11 : decode (mcc mR_isHow) 11 = .ok (.iload_n 0, 1) := o26 (byt_of hR_isHow_b0 (j := 11) rfl)
theorem dR_isHow_12 : decode (mcc mR_isHow) 12 = .ok (.bipush 10, 2) := o16 (a := 10) (byt_of hR_isHow_b0 (j := 12) rfl) (byt_of hR_isHow_b0 (j := 13) rfl) rfl
theorem dR_isHow_14 : decode (mcc mR_isHow) 14 = .ok (.irem, 1) := o112 (byt_of hR_isHow_b0 (j := 14) rfl)
theorem dR_isHow_15 : decode (mcc mR_isHow) 15 = .ok (.ifCond .le 7, 3) := o158 (a := 0) (b := 7) (byt_of hR_isHow_b0 (j := 15) rfl) (byt_of hR_isHow_b0 (j := 16) rfl) (byt_of hR_isHow_b0 (j := 17) rfl) rfl
theorem dR_isHow_18 : decode (mcc mR_isHow) 18 = .ok (.iconst 1, 1) := o4 (byt_of hR_isHow_b0 (j := 18) rfl)
theorem dR_isHow_19 : decode (mcc mR_isHow) 19 = .ok (.goto 4, 3) := o167 (a := 0) (b := 4) (byt_of hR_isHow_b0 (j := 19) rfl) (byt_of hR_isHow_b0 (j := 20) rfl) (byt_of hR_isHow_b0 (j := 21) rfl) rfl
theorem dR_isHow_22 : decode (mcc mR_isHow) 22 = .ok (.iconst 0, 1) := o3 (byt_of hR_isHow_b0 (j := 22) rfl)
theorem dR_isHow_23 : decode (mcc mR_isHow) 23 = .ok (.ireturn, 1) := o172 (byt_of hR_isHow_b0 (j := 23) rfl)
def bR_best_b0 : List Nat := [42, 27, 182, 0, 236, 154, 0, 6, 16, 251, 172, 28, 3, 4, 184, 0, 151, 154, 0, 6, 16, 249, 172, 2, 62, 2, 54, 4, 4, 54, 5, 21, 5, 17, 2, 48, 162, 0, 55, 21, 5, 184, 1, 66, 153, 0, 41, 42, 27, 21, 5, 182, 1, 69, 42, 27, 182, 1, 51, 153, 0, 26, 29, 2, 159, 0, 12, 42, 182, 1, 60, 21, 4, 162, 0, 12, 21, 5, 62, 42, 182, 1, 60, 54, 4, 132, 5, 1, 167, 255, 199, 28, 154, 0, 7, 29, 167, 0, 5, 21, 4, 172]
theorem hR_best_b0 : BL (mcc mR_best) 0 bR_best_b0 := by decide +kernel
theorem dR_best_0 : decode (mcc mR_best) 0 = .ok (.aload_n 0, 1) := o42 (byt_of hR_best_b0 (j := 0) rfl)
theorem dR_best_1 : decode (mcc mR_best) 1 = .ok (.iload_n 1, 1) := o27 (byt_of hR_best_b0 (j := 1) rfl)
theorem dR_best_2 : decode (mcc mR_best) 2 = .ok (.invokevirtual 236, 3) := o182 (a := 0) (b := 236) (byt_of hR_best_b0 (j := 2) rfl) (byt_of hR_best_b0 (j := 3) rfl) (byt_of hR_best_b0 (j := 4) rfl) rfl
theorem dR_best_5 : decode (mcc mR_best) 5 = .ok (.ifCond .ne 6, 3) := o154 (a := 0) (b := 6) (byt_of hR_best_b0 (j := 5) rfl) (byt_of hR_best_b0 (j := 6) rfl) (byt_of hR_best_b0 (j := 7) rfl) rfl
theorem dR_best_8 : decode (mcc mR_best) 8 = .ok (.bipush (-5), 2) := o16 (a := 251) (byt_of hR_best_b0 (j := 8) rfl) (byt_of hR_best_b0 (j := 9) rfl) rfl
theorem dR_best_10 : decode (mcc mR_best) 10 = .ok (.ireturn, 1) := o172 (byt_of hR_best_b0 (j := 10) rfl)
theorem dR_best_11 : decode (mcc mR_best) 11 = .ok (.iload_n 2, 1) := o28 (byt_of hR_best_b0 (j := 11) rfl)
theorem dR_best_12 : decode (mcc mR_best) 12 = .ok (.iconst 0, 1) := o3 (byt_of hR_best_b0 (j := 12) rfl)
theorem dR_best_13 : decode (mcc mR_best) 13 = .ok (.iconst 1, 1) := o4 (byt_of hR_best_b0 (j := 13) rfl)
theorem dR_best_14 : decode (mcc mR_best) 14 = .ok (.invokestatic 151, 3) := o184 (a := 0) (b := 151) (byt_of hR_best_b0 (j := 14) rfl) (byt_of hR_best_b0 (j := 15) rfl) (byt_of hR_best_b0 (j := 16) rfl) rfl
theorem dR_best_17 : decode (mcc mR_best) 17 = .ok (.ifCond .ne 6, 3) := o154 (a := 0) (b := 6) (byt_of hR_best_b0 (j := 17) rfl) (byt_of hR_best_b0 (j := 18) rfl) (byt_of hR_best_b0 (j := 19) rfl) rfl
theorem dR_best_20 : decode (mcc mR_best) 20 = .ok (.bipush (-7), 2) := o16 (a := 249) (byt_of hR_best_b0 (j := 20) rfl) (byt_of hR_best_b0 (j := 21) rfl) rfl
theorem dR_best_22 : decode (mcc mR_best) 22 = .ok (.ireturn, 1) := o172 (byt_of hR_best_b0 (j := 22) rfl)
theorem dR_best_23 : decode (mcc mR_best) 23 = .ok (.iconst (-1), 1) := o2 (byt_of hR_best_b0 (j := 23) rfl)
theorem dR_best_24 : decode (mcc mR_best) 24 = .ok (.istore_n 3, 1) := o62 (byt_of hR_best_b0 (j := 24) rfl)
theorem dR_best_25 : decode (mcc mR_best) 25 = .ok (.iconst (-1), 1) := o2 (byt_of hR_best_b0 (j := 25) rfl)
theorem dR_best_26 : decode (mcc mR_best) 26 = .ok (.istore 4, 2) := o54 (a := 4) (byt_of hR_best_b0 (j := 26) rfl) (byt_of hR_best_b0 (j := 27) rfl)
theorem dR_best_28 : decode (mcc mR_best) 28 = .ok (.iconst 1, 1) := o4 (byt_of hR_best_b0 (j := 28) rfl)
theorem dR_best_29 : decode (mcc mR_best) 29 = .ok (.istore 5, 2) := o54 (a := 5) (byt_of hR_best_b0 (j := 29) rfl) (byt_of hR_best_b0 (j := 30) rfl)
theorem dR_best_31 : decode (mcc mR_best) 31 = .ok (.iload 5, 2) := o21 (a := 5) (byt_of hR_best_b0 (j := 31) rfl) (byt_of hR_best_b0 (j := 32) rfl)
theorem dR_best_33 : decode (mcc mR_best) 33 = .ok (.sipush 560, 3) := o17 (a := 2) (b := 48) (byt_of hR_best_b0 (j := 33) rfl) (byt_of hR_best_b0 (j := 34) rfl) (byt_of hR_best_b0 (j := 35) rfl) rfl
theorem dR_best_36 : decode (mcc mR_best) 36 = .ok (.if_icmp .ge 55, 3) := o162 (a := 0) (b := 55) (byt_of hR_best_b0 (j := 36) rfl) (byt_of hR_best_b0 (j := 37) rfl) (byt_of hR_best_b0 (j := 38) rfl) rfl
theorem dR_best_39 : decode (mcc mR_best) 39 = .ok (.iload 5, 2) := o21 (a := 5) (byt_of hR_best_b0 (j := 39) rfl) (byt_of hR_best_b0 (j := 40) rfl)
theorem dR_best_41 : decode (mcc mR_best) 41 = .ok (.invokestatic 322, 3) := o184 (a := 1) (b := 66) (byt_of hR_best_b0 (j := 41) rfl) (byt_of hR_best_b0 (j := 42) rfl) (byt_of hR_best_b0 (j := 43) rfl) rfl
theorem dR_best_44 : decode (mcc mR_best) 44 = .ok (.ifCond .eq 41, 3) := o153 (a := 0) (b := 41) (byt_of hR_best_b0 (j := 44) rfl) (byt_of hR_best_b0 (j := 45) rfl) (byt_of hR_best_b0 (j := 46) rfl) rfl
theorem dR_best_47 : decode (mcc mR_best) 47 = .ok (.aload_n 0, 1) := o42 (byt_of hR_best_b0 (j := 47) rfl)
theorem dR_best_48 : decode (mcc mR_best) 48 = .ok (.iload_n 1, 1) := o27 (byt_of hR_best_b0 (j := 48) rfl)
theorem dR_best_49 : decode (mcc mR_best) 49 = .ok (.iload 5, 2) := o21 (a := 5) (byt_of hR_best_b0 (j := 49) rfl) (byt_of hR_best_b0 (j := 50) rfl)
theorem dR_best_51 : decode (mcc mR_best) 51 = .ok (.invokevirtual 325, 3) := o182 (a := 1) (b := 69) (byt_of hR_best_b0 (j := 51) rfl) (byt_of hR_best_b0 (j := 52) rfl) (byt_of hR_best_b0 (j := 53) rfl) rfl
theorem dR_best_54 : decode (mcc mR_best) 54 = .ok (.aload_n 0, 1) := o42 (byt_of hR_best_b0 (j := 54) rfl)
theorem dR_best_55 : decode (mcc mR_best) 55 = .ok (.iload_n 1, 1) := o27 (byt_of hR_best_b0 (j := 55) rfl)
theorem dR_best_56 : decode (mcc mR_best) 56 = .ok (.invokevirtual 307, 3) := o182 (a := 1) (b := 51) (byt_of hR_best_b0 (j := 56) rfl) (byt_of hR_best_b0 (j := 57) rfl) (byt_of hR_best_b0 (j := 58) rfl) rfl
theorem dR_best_59 : decode (mcc mR_best) 59 = .ok (.ifCond .eq 26, 3) := o153 (a := 0) (b := 26) (byt_of hR_best_b0 (j := 59) rfl) (byt_of hR_best_b0 (j := 60) rfl) (byt_of hR_best_b0 (j := 61) rfl) rfl
theorem dR_best_62 : decode (mcc mR_best) 62 = .ok (.iload_n 3, 1) := o29 (byt_of hR_best_b0 (j := 62) rfl)
theorem dR_best_63 : decode (mcc mR_best) 63 = .ok (.iconst (-1), 1) := o2 (byt_of hR_best_b0 (j := 63) rfl)
theorem dR_best_64 : decode (mcc mR_best) 64 = .ok (.if_icmp .eq 12, 3) := o159 (a := 0) (b := 12) (byt_of hR_best_b0 (j := 64) rfl) (byt_of hR_best_b0 (j := 65) rfl) (byt_of hR_best_b0 (j := 66) rfl) rfl
theorem dR_best_67 : decode (mcc mR_best) 67 = .ok (.aload_n 0, 1) := o42 (byt_of hR_best_b0 (j := 67) rfl)
theorem dR_best_68 : decode (mcc mR_best) 68 = .ok (.invokevirtual 316, 3) := o182 (a := 1) (b := 60) (byt_of hR_best_b0 (j := 68) rfl) (byt_of hR_best_b0 (j := 69) rfl) (byt_of hR_best_b0 (j := 70) rfl) rfl
theorem dR_best_71 : decode (mcc mR_best) 71 = .ok (.iload 4, 2) := o21 (a := 4) (byt_of hR_best_b0 (j := 71) rfl) (byt_of hR_best_b0 (j := 72) rfl)
theorem dR_best_73 : decode (mcc mR_best) 73 = .ok (.if_icmp .ge 12, 3) := o162 (a := 0) (b := 12) (byt_of hR_best_b0 (j := 73) rfl) (byt_of hR_best_b0 (j := 74) rfl) (byt_of hR_best_b0 (j := 75) rfl) rfl
theorem dR_best_76 : decode (mcc mR_best) 76 = .ok (.iload 5, 2) := o21 (a := 5) (byt_of hR_best_b0 (j := 76) rfl) (byt_of hR_best_b0 (j := 77) rfl)
theorem dR_best_78 : decode (mcc mR_best) 78 = .ok (.istore_n 3, 1) := o62 (byt_of hR_best_b0 (j := 78) rfl)
theorem dR_best_79 : decode (mcc mR_best) 79 = .ok (.aload_n 0, 1) := o42 (byt_of hR_best_b0 (j := 79) rfl)
theorem dR_best_80 : decode (mcc mR_best) 80 = .ok (.invokevirtual 316, 3) := o182 (a := 1) (b := 60) (byt_of hR_best_b0 (j := 80) rfl) (byt_of hR_best_b0 (j := 81) rfl) (byt_of hR_best_b0 (j := 82) rfl) rfl
theorem dR_best_83 : decode (mcc mR_best) 83 = .ok (.istore 4, 2) := o54 (a := 4) (byt_of hR_best_b0 (j := 83) rfl) (byt_of hR_best_b0 (j := 84) rfl)
theorem dR_best_85 : decode (mcc mR_best) 85 = .ok (.iinc 5 1, 3) := o132 (a := 5) (b := 1) (byt_of hR_best_b0 (j := 85) rfl) (byt_of hR_best_b0 (j := 86) rfl) (byt_of hR_best_b0 (j := 87) rfl) rfl
theorem dR_best_88 : decode (mcc mR_best) 88 = .ok (.goto (-57), 3) := o167 (a := 255) (b := 199) (byt_of hR_best_b0 (j := 88) rfl) (byt_of hR_best_b0 (j := 89) rfl) (byt_of hR_best_b0 (j := 90) rfl) rfl
theorem dR_best_91 : decode (mcc mR_best) 91 = .ok (.iload_n 2, 1) := o28 (byt_of hR_best_b0 (j := 91) rfl)
theorem dR_best_92 : decode (mcc mR_best) 92 = .ok (.ifCond .ne 7, 3) := o154 (a := 0) (b := 7) (byt_of hR_best_b0 (j := 92) rfl) (byt_of hR_best_b0 (j := 93) rfl) (byt_of hR_best_b0 (j := 94) rfl) rfl
theorem dR_best_95 : decode (mcc mR_best) 95 = .ok (.iload_n 3, 1) := o29 (byt_of hR_best_b0 (j := 95) rfl)
def bR_best_b1 : List Nat := [167, 0, 5, 21, 4, 172]
theorem hR_best_b1 : BL (mcc mR_best) 96 bR_best_b1 := by decide +kernel
theorem dR_best_96 : decode (mcc mR_best) 96 = .ok (.goto 5, 3) := o167 (a := 0) (b := 5) (byt_of hR_best_b1 (j := 0) rfl) (byt_of hR_best_b1 (j := 1) rfl) (byt_of hR_best_b1 (j := 2) rfl) rfl
theorem dR_best_99 : decode (mcc mR_best) 99 = .ok (.iload 4, 2) := o21 (a := 4) (byt_of hR_best_b1 (j := 3) rfl) (byt_of hR_best_b1 (j := 4) rfl)
theorem dR_best_101 : decode (mcc mR_best) 101 = .ok (.ireturn, 1) := o172 (byt_of hR_best_b1 (j := 5) rfl)
def bR_foe_b0 : List Nat := [42, 27, 182, 0, 230, 153, 0, 11, 42, 28, 182, 0, 236, 154, 0, 6, 16, 251, 172, 29, 3, 4, 184, 0, 151, 154, 0, 6, 16, 249, 172, 2, 54, 4, 3, 54, 5, 4, 54, 6, 21, 6, 17, 2, 48, 162, 0, 51, 21, 6, 184, 1, 66, 153, 0, 37, 42, 28, 21, 6, 182, 1, 69, 21, 4, 2, 159, 0, 13, 42, 27, 182, 1, 42, 21, 5, 164, 0, 14, 21, 6, 54, 4, 42, 27, 182, 1, 42, 54, 5, 132, 6, 1, 167, 255, 203, 29, 154, 0, 8, 21, 4]
theorem hR_foe_b0 : BL (mcc mR_foe) 0 bR_foe_b0 := by decide +kernel
theorem dR_foe_0 : decode (mcc mR_foe) 0 = .ok (.aload_n 0, 1) := o42 (byt_of hR_foe_b0 (j := 0) rfl)
theorem dR_foe_1 : decode (mcc mR_foe) 1 = .ok (.iload_n 1, 1) := o27 (byt_of hR_foe_b0 (j := 1) rfl)
theorem dR_foe_2 : decode (mcc mR_foe) 2 = .ok (.invokevirtual 230, 3) := o182 (a := 0) (b := 230) (byt_of hR_foe_b0 (j := 2) rfl) (byt_of hR_foe_b0 (j := 3) rfl) (byt_of hR_foe_b0 (j := 4) rfl) rfl
theorem dR_foe_5 : decode (mcc mR_foe) 5 = .ok (.ifCond .eq 11, 3) := o153 (a := 0) (b := 11) (byt_of hR_foe_b0 (j := 5) rfl) (byt_of hR_foe_b0 (j := 6) rfl) (byt_of hR_foe_b0 (j := 7) rfl) rfl
theorem dR_foe_8 : decode (mcc mR_foe) 8 = .ok (.aload_n 0, 1) := o42 (byt_of hR_foe_b0 (j := 8) rfl)
theorem dR_foe_9 : decode (mcc mR_foe) 9 = .ok (.iload_n 2, 1) := o28 (byt_of hR_foe_b0 (j := 9) rfl)
theorem dR_foe_10 : decode (mcc mR_foe) 10 = .ok (.invokevirtual 236, 3) := o182 (a := 0) (b := 236) (byt_of hR_foe_b0 (j := 10) rfl) (byt_of hR_foe_b0 (j := 11) rfl) (byt_of hR_foe_b0 (j := 12) rfl) rfl
theorem dR_foe_13 : decode (mcc mR_foe) 13 = .ok (.ifCond .ne 6, 3) := o154 (a := 0) (b := 6) (byt_of hR_foe_b0 (j := 13) rfl) (byt_of hR_foe_b0 (j := 14) rfl) (byt_of hR_foe_b0 (j := 15) rfl) rfl
theorem dR_foe_16 : decode (mcc mR_foe) 16 = .ok (.bipush (-5), 2) := o16 (a := 251) (byt_of hR_foe_b0 (j := 16) rfl) (byt_of hR_foe_b0 (j := 17) rfl) rfl
theorem dR_foe_18 : decode (mcc mR_foe) 18 = .ok (.ireturn, 1) := o172 (byt_of hR_foe_b0 (j := 18) rfl)
theorem dR_foe_19 : decode (mcc mR_foe) 19 = .ok (.iload_n 3, 1) := o29 (byt_of hR_foe_b0 (j := 19) rfl)
theorem dR_foe_20 : decode (mcc mR_foe) 20 = .ok (.iconst 0, 1) := o3 (byt_of hR_foe_b0 (j := 20) rfl)
theorem dR_foe_21 : decode (mcc mR_foe) 21 = .ok (.iconst 1, 1) := o4 (byt_of hR_foe_b0 (j := 21) rfl)
theorem dR_foe_22 : decode (mcc mR_foe) 22 = .ok (.invokestatic 151, 3) := o184 (a := 0) (b := 151) (byt_of hR_foe_b0 (j := 22) rfl) (byt_of hR_foe_b0 (j := 23) rfl) (byt_of hR_foe_b0 (j := 24) rfl) rfl
theorem dR_foe_25 : decode (mcc mR_foe) 25 = .ok (.ifCond .ne 6, 3) := o154 (a := 0) (b := 6) (byt_of hR_foe_b0 (j := 25) rfl) (byt_of hR_foe_b0 (j := 26) rfl) (byt_of hR_foe_b0 (j := 27) rfl) rfl
theorem dR_foe_28 : decode (mcc mR_foe) 28 = .ok (.bipush (-7), 2) := o16 (a := 249) (byt_of hR_foe_b0 (j := 28) rfl) (byt_of hR_foe_b0 (j := 29) rfl) rfl
theorem dR_foe_30 : decode (mcc mR_foe) 30 = .ok (.ireturn, 1) := o172 (byt_of hR_foe_b0 (j := 30) rfl)
theorem dR_foe_31 : decode (mcc mR_foe) 31 = .ok (.iconst (-1), 1) := o2 (byt_of hR_foe_b0 (j := 31) rfl)
theorem dR_foe_32 : decode (mcc mR_foe) 32 = .ok (.istore 4, 2) := o54 (a := 4) (byt_of hR_foe_b0 (j := 32) rfl) (byt_of hR_foe_b0 (j := 33) rfl)
theorem dR_foe_34 : decode (mcc mR_foe) 34 = .ok (.iconst 0, 1) := o3 (byt_of hR_foe_b0 (j := 34) rfl)
theorem dR_foe_35 : decode (mcc mR_foe) 35 = .ok (.istore 5, 2) := o54 (a := 5) (byt_of hR_foe_b0 (j := 35) rfl) (byt_of hR_foe_b0 (j := 36) rfl)
theorem dR_foe_37 : decode (mcc mR_foe) 37 = .ok (.iconst 1, 1) := o4 (byt_of hR_foe_b0 (j := 37) rfl)
theorem dR_foe_38 : decode (mcc mR_foe) 38 = .ok (.istore 6, 2) := o54 (a := 6) (byt_of hR_foe_b0 (j := 38) rfl) (byt_of hR_foe_b0 (j := 39) rfl)
theorem dR_foe_40 : decode (mcc mR_foe) 40 = .ok (.iload 6, 2) := o21 (a := 6) (byt_of hR_foe_b0 (j := 40) rfl) (byt_of hR_foe_b0 (j := 41) rfl)
theorem dR_foe_42 : decode (mcc mR_foe) 42 = .ok (.sipush 560, 3) := o17 (a := 2) (b := 48) (byt_of hR_foe_b0 (j := 42) rfl) (byt_of hR_foe_b0 (j := 43) rfl) (byt_of hR_foe_b0 (j := 44) rfl) rfl
theorem dR_foe_45 : decode (mcc mR_foe) 45 = .ok (.if_icmp .ge 51, 3) := o162 (a := 0) (b := 51) (byt_of hR_foe_b0 (j := 45) rfl) (byt_of hR_foe_b0 (j := 46) rfl) (byt_of hR_foe_b0 (j := 47) rfl) rfl
theorem dR_foe_48 : decode (mcc mR_foe) 48 = .ok (.iload 6, 2) := o21 (a := 6) (byt_of hR_foe_b0 (j := 48) rfl) (byt_of hR_foe_b0 (j := 49) rfl)
theorem dR_foe_50 : decode (mcc mR_foe) 50 = .ok (.invokestatic 322, 3) := o184 (a := 1) (b := 66) (byt_of hR_foe_b0 (j := 50) rfl) (byt_of hR_foe_b0 (j := 51) rfl) (byt_of hR_foe_b0 (j := 52) rfl) rfl
theorem dR_foe_53 : decode (mcc mR_foe) 53 = .ok (.ifCond .eq 37, 3) := o153 (a := 0) (b := 37) (byt_of hR_foe_b0 (j := 53) rfl) (byt_of hR_foe_b0 (j := 54) rfl) (byt_of hR_foe_b0 (j := 55) rfl) rfl
theorem dR_foe_56 : decode (mcc mR_foe) 56 = .ok (.aload_n 0, 1) := o42 (byt_of hR_foe_b0 (j := 56) rfl)
theorem dR_foe_57 : decode (mcc mR_foe) 57 = .ok (.iload_n 2, 1) := o28 (byt_of hR_foe_b0 (j := 57) rfl)
theorem dR_foe_58 : decode (mcc mR_foe) 58 = .ok (.iload 6, 2) := o21 (a := 6) (byt_of hR_foe_b0 (j := 58) rfl) (byt_of hR_foe_b0 (j := 59) rfl)
theorem dR_foe_60 : decode (mcc mR_foe) 60 = .ok (.invokevirtual 325, 3) := o182 (a := 1) (b := 69) (byt_of hR_foe_b0 (j := 60) rfl) (byt_of hR_foe_b0 (j := 61) rfl) (byt_of hR_foe_b0 (j := 62) rfl) rfl
theorem dR_foe_63 : decode (mcc mR_foe) 63 = .ok (.iload 4, 2) := o21 (a := 4) (byt_of hR_foe_b0 (j := 63) rfl) (byt_of hR_foe_b0 (j := 64) rfl)
theorem dR_foe_65 : decode (mcc mR_foe) 65 = .ok (.iconst (-1), 1) := o2 (byt_of hR_foe_b0 (j := 65) rfl)
theorem dR_foe_66 : decode (mcc mR_foe) 66 = .ok (.if_icmp .eq 13, 3) := o159 (a := 0) (b := 13) (byt_of hR_foe_b0 (j := 66) rfl) (byt_of hR_foe_b0 (j := 67) rfl) (byt_of hR_foe_b0 (j := 68) rfl) rfl
theorem dR_foe_69 : decode (mcc mR_foe) 69 = .ok (.aload_n 0, 1) := o42 (byt_of hR_foe_b0 (j := 69) rfl)
theorem dR_foe_70 : decode (mcc mR_foe) 70 = .ok (.iload_n 1, 1) := o27 (byt_of hR_foe_b0 (j := 70) rfl)
theorem dR_foe_71 : decode (mcc mR_foe) 71 = .ok (.invokevirtual 298, 3) := o182 (a := 1) (b := 42) (byt_of hR_foe_b0 (j := 71) rfl) (byt_of hR_foe_b0 (j := 72) rfl) (byt_of hR_foe_b0 (j := 73) rfl) rfl
theorem dR_foe_74 : decode (mcc mR_foe) 74 = .ok (.iload 5, 2) := o21 (a := 5) (byt_of hR_foe_b0 (j := 74) rfl) (byt_of hR_foe_b0 (j := 75) rfl)
theorem dR_foe_76 : decode (mcc mR_foe) 76 = .ok (.if_icmp .le 14, 3) := o164 (a := 0) (b := 14) (byt_of hR_foe_b0 (j := 76) rfl) (byt_of hR_foe_b0 (j := 77) rfl) (byt_of hR_foe_b0 (j := 78) rfl) rfl
theorem dR_foe_79 : decode (mcc mR_foe) 79 = .ok (.iload 6, 2) := o21 (a := 6) (byt_of hR_foe_b0 (j := 79) rfl) (byt_of hR_foe_b0 (j := 80) rfl)
theorem dR_foe_81 : decode (mcc mR_foe) 81 = .ok (.istore 4, 2) := o54 (a := 4) (byt_of hR_foe_b0 (j := 81) rfl) (byt_of hR_foe_b0 (j := 82) rfl)
theorem dR_foe_83 : decode (mcc mR_foe) 83 = .ok (.aload_n 0, 1) := o42 (byt_of hR_foe_b0 (j := 83) rfl)
theorem dR_foe_84 : decode (mcc mR_foe) 84 = .ok (.iload_n 1, 1) := o27 (byt_of hR_foe_b0 (j := 84) rfl)
theorem dR_foe_85 : decode (mcc mR_foe) 85 = .ok (.invokevirtual 298, 3) := o182 (a := 1) (b := 42) (byt_of hR_foe_b0 (j := 85) rfl) (byt_of hR_foe_b0 (j := 86) rfl) (byt_of hR_foe_b0 (j := 87) rfl) rfl
theorem dR_foe_88 : decode (mcc mR_foe) 88 = .ok (.istore 5, 2) := o54 (a := 5) (byt_of hR_foe_b0 (j := 88) rfl) (byt_of hR_foe_b0 (j := 89) rfl)
theorem dR_foe_90 : decode (mcc mR_foe) 90 = .ok (.iinc 6 1, 3) := o132 (a := 6) (b := 1) (byt_of hR_foe_b0 (j := 90) rfl) (byt_of hR_foe_b0 (j := 91) rfl) (byt_of hR_foe_b0 (j := 92) rfl) rfl
theorem dR_foe_93 : decode (mcc mR_foe) 93 = .ok (.goto (-53), 3) := o167 (a := 255) (b := 203) (byt_of hR_foe_b0 (j := 93) rfl) (byt_of hR_foe_b0 (j := 94) rfl) (byt_of hR_foe_b0 (j := 95) rfl) rfl
def bR_foe_b1 : List Nat := [29, 154, 0, 8, 21, 4, 167, 0, 5, 21, 5, 172]
theorem hR_foe_b1 : BL (mcc mR_foe) 96 bR_foe_b1 := by decide +kernel
theorem dR_foe_96 : decode (mcc mR_foe) 96 = .ok (.iload_n 3, 1) := o29 (byt_of hR_foe_b1 (j := 0) rfl)
theorem dR_foe_97 : decode (mcc mR_foe) 97 = .ok (.ifCond .ne 8, 3) := o154 (a := 0) (b := 8) (byt_of hR_foe_b1 (j := 1) rfl) (byt_of hR_foe_b1 (j := 2) rfl) (byt_of hR_foe_b1 (j := 3) rfl) rfl
theorem dR_foe_100 : decode (mcc mR_foe) 100 = .ok (.iload 4, 2) := o21 (a := 4) (byt_of hR_foe_b1 (j := 4) rfl) (byt_of hR_foe_b1 (j := 5) rfl)
theorem dR_foe_102 : decode (mcc mR_foe) 102 = .ok (.goto 5, 3) := o167 (a := 0) (b := 5) (byt_of hR_foe_b1 (j := 6) rfl) (byt_of hR_foe_b1 (j := 7) rfl) (byt_of hR_foe_b1 (j := 8) rfl) rfl
theorem dR_foe_105 : decode (mcc mR_foe) 105 = .ok (.iload 5, 2) := o21 (a := 5) (byt_of hR_foe_b1 (j := 9) rfl) (byt_of hR_foe_b1 (j := 10) rfl)
theorem dR_foe_107 : decode (mcc mR_foe) 107 = .ok (.ireturn, 1) := o172 (byt_of hR_foe_b1 (j := 11) rfl)
def bR_loud_b0 : List Nat := [42, 27, 182, 0, 236, 154, 0, 6, 16, 251, 172, 28, 3, 8, 184, 0, 151, 153, 0, 12, 29, 3, 8, 184, 0, 151, 154, 0, 6, 16, 249, 172, 4, 54, 4, 21, 4, 16, 9, 163, 0, 37, 42, 27, 16, 100, 28, 104, 16, 10, 29, 104, 96, 21, 4, 96, 182, 1, 69, 42, 27, 182, 1, 51, 153, 0, 6, 21, 4, 172, 132, 4, 1, 167, 255, 218, 2, 172]
theorem hR_loud_b0 : BL (mcc mR_loud) 0 bR_loud_b0 := by decide +kernel
theorem dR_loud_0 : decode (mcc mR_loud) 0 = .ok (.aload_n 0, 1) := o42 (byt_of hR_loud_b0 (j := 0) rfl)
theorem dR_loud_1 : decode (mcc mR_loud) 1 = .ok (.iload_n 1, 1) := o27 (byt_of hR_loud_b0 (j := 1) rfl)
theorem dR_loud_2 : decode (mcc mR_loud) 2 = .ok (.invokevirtual 236, 3) := o182 (a := 0) (b := 236) (byt_of hR_loud_b0 (j := 2) rfl) (byt_of hR_loud_b0 (j := 3) rfl) (byt_of hR_loud_b0 (j := 4) rfl) rfl
theorem dR_loud_5 : decode (mcc mR_loud) 5 = .ok (.ifCond .ne 6, 3) := o154 (a := 0) (b := 6) (byt_of hR_loud_b0 (j := 5) rfl) (byt_of hR_loud_b0 (j := 6) rfl) (byt_of hR_loud_b0 (j := 7) rfl) rfl
theorem dR_loud_8 : decode (mcc mR_loud) 8 = .ok (.bipush (-5), 2) := o16 (a := 251) (byt_of hR_loud_b0 (j := 8) rfl) (byt_of hR_loud_b0 (j := 9) rfl) rfl
theorem dR_loud_10 : decode (mcc mR_loud) 10 = .ok (.ireturn, 1) := o172 (byt_of hR_loud_b0 (j := 10) rfl)
theorem dR_loud_11 : decode (mcc mR_loud) 11 = .ok (.iload_n 2, 1) := o28 (byt_of hR_loud_b0 (j := 11) rfl)
theorem dR_loud_12 : decode (mcc mR_loud) 12 = .ok (.iconst 0, 1) := o3 (byt_of hR_loud_b0 (j := 12) rfl)
theorem dR_loud_13 : decode (mcc mR_loud) 13 = .ok (.iconst 5, 1) := o8 (byt_of hR_loud_b0 (j := 13) rfl)
theorem dR_loud_14 : decode (mcc mR_loud) 14 = .ok (.invokestatic 151, 3) := o184 (a := 0) (b := 151) (byt_of hR_loud_b0 (j := 14) rfl) (byt_of hR_loud_b0 (j := 15) rfl) (byt_of hR_loud_b0 (j := 16) rfl) rfl
theorem dR_loud_17 : decode (mcc mR_loud) 17 = .ok (.ifCond .eq 12, 3) := o153 (a := 0) (b := 12) (byt_of hR_loud_b0 (j := 17) rfl) (byt_of hR_loud_b0 (j := 18) rfl) (byt_of hR_loud_b0 (j := 19) rfl) rfl
theorem dR_loud_20 : decode (mcc mR_loud) 20 = .ok (.iload_n 3, 1) := o29 (byt_of hR_loud_b0 (j := 20) rfl)
theorem dR_loud_21 : decode (mcc mR_loud) 21 = .ok (.iconst 0, 1) := o3 (byt_of hR_loud_b0 (j := 21) rfl)
theorem dR_loud_22 : decode (mcc mR_loud) 22 = .ok (.iconst 5, 1) := o8 (byt_of hR_loud_b0 (j := 22) rfl)
theorem dR_loud_23 : decode (mcc mR_loud) 23 = .ok (.invokestatic 151, 3) := o184 (a := 0) (b := 151) (byt_of hR_loud_b0 (j := 23) rfl) (byt_of hR_loud_b0 (j := 24) rfl) (byt_of hR_loud_b0 (j := 25) rfl) rfl
theorem dR_loud_26 : decode (mcc mR_loud) 26 = .ok (.ifCond .ne 6, 3) := o154 (a := 0) (b := 6) (byt_of hR_loud_b0 (j := 26) rfl) (byt_of hR_loud_b0 (j := 27) rfl) (byt_of hR_loud_b0 (j := 28) rfl) rfl
theorem dR_loud_29 : decode (mcc mR_loud) 29 = .ok (.bipush (-7), 2) := o16 (a := 249) (byt_of hR_loud_b0 (j := 29) rfl) (byt_of hR_loud_b0 (j := 30) rfl) rfl
theorem dR_loud_31 : decode (mcc mR_loud) 31 = .ok (.ireturn, 1) := o172 (byt_of hR_loud_b0 (j := 31) rfl)
theorem dR_loud_32 : decode (mcc mR_loud) 32 = .ok (.iconst 1, 1) := o4 (byt_of hR_loud_b0 (j := 32) rfl)
theorem dR_loud_33 : decode (mcc mR_loud) 33 = .ok (.istore 4, 2) := o54 (a := 4) (byt_of hR_loud_b0 (j := 33) rfl) (byt_of hR_loud_b0 (j := 34) rfl)
theorem dR_loud_35 : decode (mcc mR_loud) 35 = .ok (.iload 4, 2) := o21 (a := 4) (byt_of hR_loud_b0 (j := 35) rfl) (byt_of hR_loud_b0 (j := 36) rfl)
theorem dR_loud_37 : decode (mcc mR_loud) 37 = .ok (.bipush 9, 2) := o16 (a := 9) (byt_of hR_loud_b0 (j := 37) rfl) (byt_of hR_loud_b0 (j := 38) rfl) rfl
theorem dR_loud_39 : decode (mcc mR_loud) 39 = .ok (.if_icmp .gt 37, 3) := o163 (a := 0) (b := 37) (byt_of hR_loud_b0 (j := 39) rfl) (byt_of hR_loud_b0 (j := 40) rfl) (byt_of hR_loud_b0 (j := 41) rfl) rfl
theorem dR_loud_42 : decode (mcc mR_loud) 42 = .ok (.aload_n 0, 1) := o42 (byt_of hR_loud_b0 (j := 42) rfl)
theorem dR_loud_43 : decode (mcc mR_loud) 43 = .ok (.iload_n 1, 1) := o27 (byt_of hR_loud_b0 (j := 43) rfl)
theorem dR_loud_44 : decode (mcc mR_loud) 44 = .ok (.bipush 100, 2) := o16 (a := 100) (byt_of hR_loud_b0 (j := 44) rfl) (byt_of hR_loud_b0 (j := 45) rfl) rfl
theorem dR_loud_46 : decode (mcc mR_loud) 46 = .ok (.iload_n 2, 1) := o28 (byt_of hR_loud_b0 (j := 46) rfl)
theorem dR_loud_47 : decode (mcc mR_loud) 47 = .ok (.imul, 1) := o104 (byt_of hR_loud_b0 (j := 47) rfl)
theorem dR_loud_48 : decode (mcc mR_loud) 48 = .ok (.bipush 10, 2) := o16 (a := 10) (byt_of hR_loud_b0 (j := 48) rfl) (byt_of hR_loud_b0 (j := 49) rfl) rfl
theorem dR_loud_50 : decode (mcc mR_loud) 50 = .ok (.iload_n 3, 1) := o29 (byt_of hR_loud_b0 (j := 50) rfl)
theorem dR_loud_51 : decode (mcc mR_loud) 51 = .ok (.imul, 1) := o104 (byt_of hR_loud_b0 (j := 51) rfl)
theorem dR_loud_52 : decode (mcc mR_loud) 52 = .ok (.iadd, 1) := o96 (byt_of hR_loud_b0 (j := 52) rfl)
theorem dR_loud_53 : decode (mcc mR_loud) 53 = .ok (.iload 4, 2) := o21 (a := 4) (byt_of hR_loud_b0 (j := 53) rfl) (byt_of hR_loud_b0 (j := 54) rfl)
theorem dR_loud_55 : decode (mcc mR_loud) 55 = .ok (.iadd, 1) := o96 (byt_of hR_loud_b0 (j := 55) rfl)
theorem dR_loud_56 : decode (mcc mR_loud) 56 = .ok (.invokevirtual 325, 3) := o182 (a := 1) (b := 69) (byt_of hR_loud_b0 (j := 56) rfl) (byt_of hR_loud_b0 (j := 57) rfl) (byt_of hR_loud_b0 (j := 58) rfl) rfl
theorem dR_loud_59 : decode (mcc mR_loud) 59 = .ok (.aload_n 0, 1) := o42 (byt_of hR_loud_b0 (j := 59) rfl)
theorem dR_loud_60 : decode (mcc mR_loud) 60 = .ok (.iload_n 1, 1) := o27 (byt_of hR_loud_b0 (j := 60) rfl)
theorem dR_loud_61 : decode (mcc mR_loud) 61 = .ok (.invokevirtual 307, 3) := o182 (a := 1) (b := 51) (byt_of hR_loud_b0 (j := 61) rfl) (byt_of hR_loud_b0 (j := 62) rfl) (byt_of hR_loud_b0 (j := 63) rfl) rfl
theorem dR_loud_64 : decode (mcc mR_loud) 64 = .ok (.ifCond .eq 6, 3) := o153 (a := 0) (b := 6) (byt_of hR_loud_b0 (j := 64) rfl) (byt_of hR_loud_b0 (j := 65) rfl) (byt_of hR_loud_b0 (j := 66) rfl) rfl
theorem dR_loud_67 : decode (mcc mR_loud) 67 = .ok (.iload 4, 2) := o21 (a := 4) (byt_of hR_loud_b0 (j := 67) rfl) (byt_of hR_loud_b0 (j := 68) rfl)
theorem dR_loud_69 : decode (mcc mR_loud) 69 = .ok (.ireturn, 1) := o172 (byt_of hR_loud_b0 (j := 69) rfl)
theorem dR_loud_70 : decode (mcc mR_loud) 70 = .ok (.iinc 4 1, 3) := o132 (a := 4) (b := 1) (byt_of hR_loud_b0 (j := 70) rfl) (byt_of hR_loud_b0 (j := 71) rfl) (byt_of hR_loud_b0 (j := 72) rfl) rfl
theorem dR_loud_73 : decode (mcc mR_loud) 73 = .ok (.goto (-38), 3) := o167 (a := 255) (b := 218) (byt_of hR_loud_b0 (j := 73) rfl) (byt_of hR_loud_b0 (j := 74) rfl) (byt_of hR_loud_b0 (j := 75) rfl) rfl
theorem dR_loud_76 : decode (mcc mR_loud) 76 = .ok (.iconst (-1), 1) := o2 (byt_of hR_loud_b0 (j := 76) rfl)
theorem dR_loud_77 : decode (mcc mR_loud) 77 = .ok (.ireturn, 1) := o172 (byt_of hR_loud_b0 (j := 77) rfl)
def bR_spare_b0 : List Nat := [42, 42, 180, 0, 158, 182, 1, 39, 42, 182, 1, 54, 60, 3, 61, 3, 62, 29, 42, 180, 0, 158, 162, 0, 48, 42, 29, 181, 0, 131, 42, 42, 180, 0, 158, 182, 1, 39, 42, 2, 181, 0, 131, 28, 27, 42, 182, 1, 54, 2, 130, 126, 154, 0, 9, 4, 29, 120, 167, 0, 4, 3, 128, 61, 132, 3, 1, 167, 255, 206, 28, 172]
theorem hR_spare_b0 : BL (mcc mR_spare) 0 bR_spare_b0 := by decide +kernel
theorem dR_spare_0 : decode (mcc mR_spare) 0 = .ok (.aload_n 0, 1) := o42 (byt_of hR_spare_b0 (j := 0) rfl)
theorem dR_spare_1 : decode (mcc mR_spare) 1 = .ok (.aload_n 0, 1) := o42 (byt_of hR_spare_b0 (j := 1) rfl)
theorem dR_spare_2 : decode (mcc mR_spare) 2 = .ok (.getfield 158, 3) := o180 (a := 0) (b := 158) (byt_of hR_spare_b0 (j := 2) rfl) (byt_of hR_spare_b0 (j := 3) rfl) (byt_of hR_spare_b0 (j := 4) rfl) rfl
theorem dR_spare_5 : decode (mcc mR_spare) 5 = .ok (.invokevirtual 295, 3) := o182 (a := 1) (b := 39) (byt_of hR_spare_b0 (j := 5) rfl) (byt_of hR_spare_b0 (j := 6) rfl) (byt_of hR_spare_b0 (j := 7) rfl) rfl
theorem dR_spare_8 : decode (mcc mR_spare) 8 = .ok (.aload_n 0, 1) := o42 (byt_of hR_spare_b0 (j := 8) rfl)
theorem dR_spare_9 : decode (mcc mR_spare) 9 = .ok (.invokevirtual 310, 3) := o182 (a := 1) (b := 54) (byt_of hR_spare_b0 (j := 9) rfl) (byt_of hR_spare_b0 (j := 10) rfl) (byt_of hR_spare_b0 (j := 11) rfl) rfl
theorem dR_spare_12 : decode (mcc mR_spare) 12 = .ok (.istore_n 1, 1) := o60 (byt_of hR_spare_b0 (j := 12) rfl)
theorem dR_spare_13 : decode (mcc mR_spare) 13 = .ok (.iconst 0, 1) := o3 (byt_of hR_spare_b0 (j := 13) rfl)
theorem dR_spare_14 : decode (mcc mR_spare) 14 = .ok (.istore_n 2, 1) := o61 (byt_of hR_spare_b0 (j := 14) rfl)
theorem dR_spare_15 : decode (mcc mR_spare) 15 = .ok (.iconst 0, 1) := o3 (byt_of hR_spare_b0 (j := 15) rfl)
theorem dR_spare_16 : decode (mcc mR_spare) 16 = .ok (.istore_n 3, 1) := o62 (byt_of hR_spare_b0 (j := 16) rfl)
theorem dR_spare_17 : decode (mcc mR_spare) 17 = .ok (.iload_n 3, 1) := o29 (byt_of hR_spare_b0 (j := 17) rfl)
theorem dR_spare_18 : decode (mcc mR_spare) 18 = .ok (.aload_n 0, 1) := o42 (byt_of hR_spare_b0 (j := 18) rfl)
theorem dR_spare_19 : decode (mcc mR_spare) 19 = .ok (.getfield 158, 3) := o180 (a := 0) (b := 158) (byt_of hR_spare_b0 (j := 19) rfl) (byt_of hR_spare_b0 (j := 20) rfl) (byt_of hR_spare_b0 (j := 21) rfl) rfl
theorem dR_spare_22 : decode (mcc mR_spare) 22 = .ok (.if_icmp .ge 48, 3) := o162 (a := 0) (b := 48) (byt_of hR_spare_b0 (j := 22) rfl) (byt_of hR_spare_b0 (j := 23) rfl) (byt_of hR_spare_b0 (j := 24) rfl) rfl
theorem dR_spare_25 : decode (mcc mR_spare) 25 = .ok (.aload_n 0, 1) := o42 (byt_of hR_spare_b0 (j := 25) rfl)
theorem dR_spare_26 : decode (mcc mR_spare) 26 = .ok (.iload_n 3, 1) := o29 (byt_of hR_spare_b0 (j := 26) rfl)
theorem dR_spare_27 : decode (mcc mR_spare) 27 = .ok (.putfield 131, 3) := o181 (a := 0) (b := 131) (byt_of hR_spare_b0 (j := 27) rfl) (byt_of hR_spare_b0 (j := 28) rfl) (byt_of hR_spare_b0 (j := 29) rfl) rfl
theorem dR_spare_30 : decode (mcc mR_spare) 30 = .ok (.aload_n 0, 1) := o42 (byt_of hR_spare_b0 (j := 30) rfl)
theorem dR_spare_31 : decode (mcc mR_spare) 31 = .ok (.aload_n 0, 1) := o42 (byt_of hR_spare_b0 (j := 31) rfl)
theorem dR_spare_32 : decode (mcc mR_spare) 32 = .ok (.getfield 158, 3) := o180 (a := 0) (b := 158) (byt_of hR_spare_b0 (j := 32) rfl) (byt_of hR_spare_b0 (j := 33) rfl) (byt_of hR_spare_b0 (j := 34) rfl) rfl
theorem dR_spare_35 : decode (mcc mR_spare) 35 = .ok (.invokevirtual 295, 3) := o182 (a := 1) (b := 39) (byt_of hR_spare_b0 (j := 35) rfl) (byt_of hR_spare_b0 (j := 36) rfl) (byt_of hR_spare_b0 (j := 37) rfl) rfl
theorem dR_spare_38 : decode (mcc mR_spare) 38 = .ok (.aload_n 0, 1) := o42 (byt_of hR_spare_b0 (j := 38) rfl)
theorem dR_spare_39 : decode (mcc mR_spare) 39 = .ok (.iconst (-1), 1) := o2 (byt_of hR_spare_b0 (j := 39) rfl)
theorem dR_spare_40 : decode (mcc mR_spare) 40 = .ok (.putfield 131, 3) := o181 (a := 0) (b := 131) (byt_of hR_spare_b0 (j := 40) rfl) (byt_of hR_spare_b0 (j := 41) rfl) (byt_of hR_spare_b0 (j := 42) rfl) rfl
theorem dR_spare_43 : decode (mcc mR_spare) 43 = .ok (.iload_n 2, 1) := o28 (byt_of hR_spare_b0 (j := 43) rfl)
theorem dR_spare_44 : decode (mcc mR_spare) 44 = .ok (.iload_n 1, 1) := o27 (byt_of hR_spare_b0 (j := 44) rfl)
theorem dR_spare_45 : decode (mcc mR_spare) 45 = .ok (.aload_n 0, 1) := o42 (byt_of hR_spare_b0 (j := 45) rfl)
theorem dR_spare_46 : decode (mcc mR_spare) 46 = .ok (.invokevirtual 310, 3) := o182 (a := 1) (b := 54) (byt_of hR_spare_b0 (j := 46) rfl) (byt_of hR_spare_b0 (j := 47) rfl) (byt_of hR_spare_b0 (j := 48) rfl) rfl
theorem dR_spare_49 : decode (mcc mR_spare) 49 = .ok (.iconst (-1), 1) := o2 (byt_of hR_spare_b0 (j := 49) rfl)
theorem dR_spare_50 : decode (mcc mR_spare) 50 = .ok (.ixor, 1) := o130 (byt_of hR_spare_b0 (j := 50) rfl)
theorem dR_spare_51 : decode (mcc mR_spare) 51 = .ok (.iand, 1) := o126 (byt_of hR_spare_b0 (j := 51) rfl)
theorem dR_spare_52 : decode (mcc mR_spare) 52 = .ok (.ifCond .ne 9, 3) := o154 (a := 0) (b := 9) (byt_of hR_spare_b0 (j := 52) rfl) (byt_of hR_spare_b0 (j := 53) rfl) (byt_of hR_spare_b0 (j := 54) rfl) rfl
theorem dR_spare_55 : decode (mcc mR_spare) 55 = .ok (.iconst 1, 1) := o4 (byt_of hR_spare_b0 (j := 55) rfl)
theorem dR_spare_56 : decode (mcc mR_spare) 56 = .ok (.iload_n 3, 1) := o29 (byt_of hR_spare_b0 (j := 56) rfl)
theorem dR_spare_57 : decode (mcc mR_spare) 57 = .ok (.ishl, 1) := o120 (byt_of hR_spare_b0 (j := 57) rfl)
theorem dR_spare_58 : decode (mcc mR_spare) 58 = .ok (.goto 4, 3) := o167 (a := 0) (b := 4) (byt_of hR_spare_b0 (j := 58) rfl) (byt_of hR_spare_b0 (j := 59) rfl) (byt_of hR_spare_b0 (j := 60) rfl) rfl
theorem dR_spare_61 : decode (mcc mR_spare) 61 = .ok (.iconst 0, 1) := o3 (byt_of hR_spare_b0 (j := 61) rfl)
theorem dR_spare_62 : decode (mcc mR_spare) 62 = .ok (.ior, 1) := o128 (byt_of hR_spare_b0 (j := 62) rfl)
theorem dR_spare_63 : decode (mcc mR_spare) 63 = .ok (.istore_n 2, 1) := o61 (byt_of hR_spare_b0 (j := 63) rfl)
theorem dR_spare_64 : decode (mcc mR_spare) 64 = .ok (.iinc 3 1, 3) := o132 (a := 3) (b := 1) (byt_of hR_spare_b0 (j := 64) rfl) (byt_of hR_spare_b0 (j := 65) rfl) (byt_of hR_spare_b0 (j := 66) rfl) rfl
theorem dR_spare_67 : decode (mcc mR_spare) 67 = .ok (.goto (-50), 3) := o167 (a := 255) (b := 206) (byt_of hR_spare_b0 (j := 67) rfl) (byt_of hR_spare_b0 (j := 68) rfl) (byt_of hR_spare_b0 (j := 69) rfl) rfl
theorem dR_spare_70 : decode (mcc mR_spare) 70 = .ok (.iload_n 2, 1) := o28 (byt_of hR_spare_b0 (j := 70) rfl)
theorem dR_spare_71 : decode (mcc mR_spare) 71 = .ok (.ireturn, 1) := o172 (byt_of hR_spare_b0 (j := 71) rfl)
def bR_shares_b0 : List Nat := [3, 61, 3, 62, 29, 42, 180, 0, 158, 162, 0, 31, 28, 42, 180, 0, 56, 29, 46, 27, 160, 0, 11, 42, 29, 182, 1, 21, 167, 0, 4, 3, 128, 61, 132, 3, 1, 167, 255, 223, 3, 62, 29, 16, 8, 162, 0, 16, 42, 180, 0, 134, 29, 3, 79, 132, 3, 1, 167, 255, 240, 3, 62, 29, 42, 180, 0, 47, 27, 46, 162, 0, 156, 2, 54, 4, 3, 54, 5, 21, 5, 42, 180, 0, 148, 162, 0, 116, 28, 21, 5, 122, 4, 126, 4, 160, 0, 45, 42, 180, 0, 20]
theorem hR_shares_b0 : BL (mcc mR_shares) 0 bR_shares_b0 := by decide +kernel
theorem dR_shares_0 : decode (mcc mR_shares) 0 = .ok (.iconst 0, 1) := o3 (byt_of hR_shares_b0 (j := 0) rfl)
theorem dR_shares_1 : decode (mcc mR_shares) 1 = .ok (.istore_n 2, 1) := o61 (byt_of hR_shares_b0 (j := 1) rfl)
theorem dR_shares_2 : decode (mcc mR_shares) 2 = .ok (.iconst 0, 1) := o3 (byt_of hR_shares_b0 (j := 2) rfl)
theorem dR_shares_3 : decode (mcc mR_shares) 3 = .ok (.istore_n 3, 1) := o62 (byt_of hR_shares_b0 (j := 3) rfl)
theorem dR_shares_4 : decode (mcc mR_shares) 4 = .ok (.iload_n 3, 1) := o29 (byt_of hR_shares_b0 (j := 4) rfl)
theorem dR_shares_5 : decode (mcc mR_shares) 5 = .ok (.aload_n 0, 1) := o42 (byt_of hR_shares_b0 (j := 5) rfl)
theorem dR_shares_6 : decode (mcc mR_shares) 6 = .ok (.getfield 158, 3) := o180 (a := 0) (b := 158) (byt_of hR_shares_b0 (j := 6) rfl) (byt_of hR_shares_b0 (j := 7) rfl) (byt_of hR_shares_b0 (j := 8) rfl) rfl
theorem dR_shares_9 : decode (mcc mR_shares) 9 = .ok (.if_icmp .ge 31, 3) := o162 (a := 0) (b := 31) (byt_of hR_shares_b0 (j := 9) rfl) (byt_of hR_shares_b0 (j := 10) rfl) (byt_of hR_shares_b0 (j := 11) rfl) rfl
theorem dR_shares_12 : decode (mcc mR_shares) 12 = .ok (.iload_n 2, 1) := o28 (byt_of hR_shares_b0 (j := 12) rfl)
theorem dR_shares_13 : decode (mcc mR_shares) 13 = .ok (.aload_n 0, 1) := o42 (byt_of hR_shares_b0 (j := 13) rfl)
theorem dR_shares_14 : decode (mcc mR_shares) 14 = .ok (.getfield 56, 3) := o180 (a := 0) (b := 56) (byt_of hR_shares_b0 (j := 14) rfl) (byt_of hR_shares_b0 (j := 15) rfl) (byt_of hR_shares_b0 (j := 16) rfl) rfl
theorem dR_shares_17 : decode (mcc mR_shares) 17 = .ok (.iload_n 3, 1) := o29 (byt_of hR_shares_b0 (j := 17) rfl)
theorem dR_shares_18 : decode (mcc mR_shares) 18 = .ok (.iaload, 1) := o46 (byt_of hR_shares_b0 (j := 18) rfl)
theorem dR_shares_19 : decode (mcc mR_shares) 19 = .ok (.iload_n 1, 1) := o27 (byt_of hR_shares_b0 (j := 19) rfl)
theorem dR_shares_20 : decode (mcc mR_shares) 20 = .ok (.if_icmp .ne 11, 3) := o160 (a := 0) (b := 11) (byt_of hR_shares_b0 (j := 20) rfl) (byt_of hR_shares_b0 (j := 21) rfl) (byt_of hR_shares_b0 (j := 22) rfl) rfl
theorem dR_shares_23 : decode (mcc mR_shares) 23 = .ok (.aload_n 0, 1) := o42 (byt_of hR_shares_b0 (j := 23) rfl)
theorem dR_shares_24 : decode (mcc mR_shares) 24 = .ok (.iload_n 3, 1) := o29 (byt_of hR_shares_b0 (j := 24) rfl)
theorem dR_shares_25 : decode (mcc mR_shares) 25 = .ok (.invokevirtual 277, 3) := o182 (a := 1) (b := 21) (byt_of hR_shares_b0 (j := 25) rfl) (byt_of hR_shares_b0 (j := 26) rfl) (byt_of hR_shares_b0 (j := 27) rfl) rfl
theorem dR_shares_28 : decode (mcc mR_shares) 28 = .ok (.goto 4, 3) := o167 (a := 0) (b := 4) (byt_of hR_shares_b0 (j := 28) rfl) (byt_of hR_shares_b0 (j := 29) rfl) (byt_of hR_shares_b0 (j := 30) rfl) rfl
theorem dR_shares_31 : decode (mcc mR_shares) 31 = .ok (.iconst 0, 1) := o3 (byt_of hR_shares_b0 (j := 31) rfl)
theorem dR_shares_32 : decode (mcc mR_shares) 32 = .ok (.ior, 1) := o128 (byt_of hR_shares_b0 (j := 32) rfl)
theorem dR_shares_33 : decode (mcc mR_shares) 33 = .ok (.istore_n 2, 1) := o61 (byt_of hR_shares_b0 (j := 33) rfl)
theorem dR_shares_34 : decode (mcc mR_shares) 34 = .ok (.iinc 3 1, 3) := o132 (a := 3) (b := 1) (byt_of hR_shares_b0 (j := 34) rfl) (byt_of hR_shares_b0 (j := 35) rfl) (byt_of hR_shares_b0 (j := 36) rfl) rfl
theorem dR_shares_37 : decode (mcc mR_shares) 37 = .ok (.goto (-33), 3) := o167 (a := 255) (b := 223) (byt_of hR_shares_b0 (j := 37) rfl) (byt_of hR_shares_b0 (j := 38) rfl) (byt_of hR_shares_b0 (j := 39) rfl) rfl
theorem dR_shares_40 : decode (mcc mR_shares) 40 = .ok (.iconst 0, 1) := o3 (byt_of hR_shares_b0 (j := 40) rfl)
theorem dR_shares_41 : decode (mcc mR_shares) 41 = .ok (.istore_n 3, 1) := o62 (byt_of hR_shares_b0 (j := 41) rfl)
theorem dR_shares_42 : decode (mcc mR_shares) 42 = .ok (.iload_n 3, 1) := o29 (byt_of hR_shares_b0 (j := 42) rfl)
theorem dR_shares_43 : decode (mcc mR_shares) 43 = .ok (.bipush 8, 2) := o16 (a := 8) (byt_of hR_shares_b0 (j := 43) rfl) (byt_of hR_shares_b0 (j := 44) rfl) rfl
theorem dR_shares_45 : decode (mcc mR_shares) 45 = .ok (.if_icmp .ge 16, 3) := o162 (a := 0) (b := 16) (byt_of hR_shares_b0 (j := 45) rfl) (byt_of hR_shares_b0 (j := 46) rfl) (byt_of hR_shares_b0 (j := 47) rfl) rfl
theorem dR_shares_48 : decode (mcc mR_shares) 48 = .ok (.aload_n 0, 1) := o42 (byt_of hR_shares_b0 (j := 48) rfl)
theorem dR_shares_49 : decode (mcc mR_shares) 49 = .ok (.getfield 134, 3) := o180 (a := 0) (b := 134) (byt_of hR_shares_b0 (j := 49) rfl) (byt_of hR_shares_b0 (j := 50) rfl) (byt_of hR_shares_b0 (j := 51) rfl) rfl
theorem dR_shares_52 : decode (mcc mR_shares) 52 = .ok (.iload_n 3, 1) := o29 (byt_of hR_shares_b0 (j := 52) rfl)
theorem dR_shares_53 : decode (mcc mR_shares) 53 = .ok (.iconst 0, 1) := o3 (byt_of hR_shares_b0 (j := 53) rfl)
theorem dR_shares_54 : decode (mcc mR_shares) 54 = .ok (.iastore, 1) := o79 (byt_of hR_shares_b0 (j := 54) rfl)
theorem dR_shares_55 : decode (mcc mR_shares) 55 = .ok (.iinc 3 1, 3) := o132 (a := 3) (b := 1) (byt_of hR_shares_b0 (j := 55) rfl) (byt_of hR_shares_b0 (j := 56) rfl) (byt_of hR_shares_b0 (j := 57) rfl) rfl
theorem dR_shares_58 : decode (mcc mR_shares) 58 = .ok (.goto (-16), 3) := o167 (a := 255) (b := 240) (byt_of hR_shares_b0 (j := 58) rfl) (byt_of hR_shares_b0 (j := 59) rfl) (byt_of hR_shares_b0 (j := 60) rfl) rfl
theorem dR_shares_61 : decode (mcc mR_shares) 61 = .ok (.iconst 0, 1) := o3 (byt_of hR_shares_b0 (j := 61) rfl)
theorem dR_shares_62 : decode (mcc mR_shares) 62 = .ok (.istore_n 3, 1) := o62 (byt_of hR_shares_b0 (j := 62) rfl)
theorem dR_shares_63 : decode (mcc mR_shares) 63 = .ok (.iload_n 3, 1) := o29 (byt_of hR_shares_b0 (j := 63) rfl)
theorem dR_shares_64 : decode (mcc mR_shares) 64 = .ok (.aload_n 0, 1) := o42 (byt_of hR_shares_b0 (j := 64) rfl)
theorem dR_shares_65 : decode (mcc mR_shares) 65 = .ok (.getfield 47, 3) := o180 (a := 0) (b := 47) (byt_of hR_shares_b0 (j := 65) rfl) (byt_of hR_shares_b0 (j := 66) rfl) (byt_of hR_shares_b0 (j := 67) rfl) rfl
theorem dR_shares_68 : decode (mcc mR_shares) 68 = .ok (.iload_n 1, 1) := o27 (byt_of hR_shares_b0 (j := 68) rfl)
theorem dR_shares_69 : decode (mcc mR_shares) 69 = .ok (.iaload, 1) := o46 (byt_of hR_shares_b0 (j := 69) rfl)
theorem dR_shares_70 : decode (mcc mR_shares) 70 = .ok (.if_icmp .ge 156, 3) := o162 (a := 0) (b := 156) (byt_of hR_shares_b0 (j := 70) rfl) (byt_of hR_shares_b0 (j := 71) rfl) (byt_of hR_shares_b0 (j := 72) rfl) rfl
theorem dR_shares_73 : decode (mcc mR_shares) 73 = .ok (.iconst (-1), 1) := o2 (byt_of hR_shares_b0 (j := 73) rfl)
theorem dR_shares_74 : decode (mcc mR_shares) 74 = .ok (.istore 4, 2) := o54 (a := 4) (byt_of hR_shares_b0 (j := 74) rfl) (byt_of hR_shares_b0 (j := 75) rfl)
theorem dR_shares_76 : decode (mcc mR_shares) 76 = .ok (.iconst 0, 1) := o3 (byt_of hR_shares_b0 (j := 76) rfl)
theorem dR_shares_77 : decode (mcc mR_shares) 77 = .ok (.istore 5, 2) := o54 (a := 5) (byt_of hR_shares_b0 (j := 77) rfl) (byt_of hR_shares_b0 (j := 78) rfl)
theorem dR_shares_79 : decode (mcc mR_shares) 79 = .ok (.iload 5, 2) := o21 (a := 5) (byt_of hR_shares_b0 (j := 79) rfl) (byt_of hR_shares_b0 (j := 80) rfl)
theorem dR_shares_81 : decode (mcc mR_shares) 81 = .ok (.aload_n 0, 1) := o42 (byt_of hR_shares_b0 (j := 81) rfl)
theorem dR_shares_82 : decode (mcc mR_shares) 82 = .ok (.getfield 148, 3) := o180 (a := 0) (b := 148) (byt_of hR_shares_b0 (j := 82) rfl) (byt_of hR_shares_b0 (j := 83) rfl) (byt_of hR_shares_b0 (j := 84) rfl) rfl
theorem dR_shares_85 : decode (mcc mR_shares) 85 = .ok (.if_icmp .ge 116, 3) := o162 (a := 0) (b := 116) (byt_of hR_shares_b0 (j := 85) rfl) (byt_of hR_shares_b0 (j := 86) rfl) (byt_of hR_shares_b0 (j := 87) rfl) rfl
theorem dR_shares_88 : decode (mcc mR_shares) 88 = .ok (.iload_n 2, 1) := o28 (byt_of hR_shares_b0 (j := 88) rfl)
theorem dR_shares_89 : decode (mcc mR_shares) 89 = .ok (.iload 5, 2) := o21 (a := 5) (byt_of hR_shares_b0 (j := 89) rfl) (byt_of hR_shares_b0 (j := 90) rfl)
theorem dR_shares_91 : decode (mcc mR_shares) 91 = .ok (.ishr, 1) := o122 (byt_of hR_shares_b0 (j := 91) rfl)
theorem dR_shares_92 : decode (mcc mR_shares) 92 = .ok (.iconst 1, 1) := o4 (byt_of hR_shares_b0 (j := 92) rfl)
theorem dR_shares_93 : decode (mcc mR_shares) 93 = .ok (.iand, 1) := o126 (byt_of hR_shares_b0 (j := 93) rfl)
theorem dR_shares_94 : decode (mcc mR_shares) 94 = .ok (.iconst 1, 1) := o4 (byt_of hR_shares_b0 (j := 94) rfl)
theorem dR_shares_95 : decode (mcc mR_shares) 95 = .ok (.if_icmp .ne 45, 3) := o160 (a := 0) (b := 45) (byt_of hR_shares_b0 (j := 95) rfl) (byt_of hR_shares_b0 (j := 96) rfl) (byt_of hR_shares_b0 (j := 97) rfl) rfl
def bR_shares_b1 : List Nat := [0, 45, 42, 180, 0, 20, 21, 5, 46, 7, 159, 0, 34, 42, 21, 5, 27, 182, 1, 27, 153, 0, 24, 42, 180, 0, 134, 21, 5, 46, 42, 180, 0, 38, 21, 5, 46, 162, 0, 7, 4, 167, 0, 4, 3, 54, 6, 21, 6, 153, 0, 50, 21, 4, 2, 159, 0, 40, 42, 180, 0, 35, 21, 5, 46, 42, 180, 0, 134, 21, 5, 46, 4, 96, 104, 42, 180, 0, 35, 21, 4, 46, 42, 180, 0, 134, 21, 4, 46, 4, 96, 104, 162, 0, 7, 21, 5, 54, 4, 132, 5, 1]
theorem hR_shares_b1 : BL (mcc mR_shares) 96 bR_shares_b1 := by decide +kernel
theorem dR_shares_98 : decode (mcc mR_shares) 98 = .ok (.aload_n 0, 1) := o42 (byt_of hR_shares_b1 (j := 2) rfl)
theorem dR_shares_99 : decode (mcc mR_shares) 99 = .ok (.getfield 20, 3) := o180 (a := 0) (b := 20) (byt_of hR_shares_b1 (j := 3) rfl) (byt_of hR_shares_b1 (j := 4) rfl) (byt_of hR_shares_b1 (j := 5) rfl) rfl
theorem dR_shares_102 : decode (mcc mR_shares) 102 = .ok (.iload 5, 2) := o21 (a := 5) (byt_of hR_shares_b1 (j := 6) rfl) (byt_of hR_shares_b1 (j := 7) rfl)
theorem dR_shares_104 : decode (mcc mR_shares) 104 = .ok (.iaload, 1) := o46 (byt_of hR_shares_b1 (j := 8) rfl)
theorem dR_shares_105 : decode (mcc mR_shares) 105 = .ok (.iconst 4, 1) := o7 (byt_of hR_shares_b1 (j := 9) rfl)
theorem dR_shares_106 : decode (mcc mR_shares) 106 = .ok (.if_icmp .eq 34, 3) := o159 (a := 0) (b := 34) (byt_of hR_shares_b1 (j := 10) rfl) (byt_of hR_shares_b1 (j := 11) rfl) (byt_of hR_shares_b1 (j := 12) rfl) rfl
theorem dR_shares_109 : decode (mcc mR_shares) 109 = .ok (.aload_n 0, 1) := o42 (byt_of hR_shares_b1 (j := 13) rfl)
theorem dR_shares_110 : decode (mcc mR_shares) 110 = .ok (.iload 5, 2) := o21 (a := 5) (byt_of hR_shares_b1 (j := 14) rfl) (byt_of hR_shares_b1 (j := 15) rfl)
theorem dR_shares_112 : decode (mcc mR_shares) 112 = .ok (.iload_n 1, 1) := o27 (byt_of hR_shares_b1 (j := 16) rfl)
theorem dR_shares_113 : decode (mcc mR_shares) 113 = .ok (.invokevirtual 283, 3) := o182 (a := 1) (b := 27) (byt_of hR_shares_b1 (j := 17) rfl) (byt_of hR_shares_b1 (j := 18) rfl) (byt_of hR_shares_b1 (j := 19) rfl) rfl
theorem dR_shares_116 : decode (mcc mR_shares) 116 = .ok (.ifCond .eq 24, 3) := o153 (a := 0) (b := 24) (byt_of hR_shares_b1 (j := 20) rfl) (byt_of hR_shares_b1 (j := 21) rfl) (byt_of hR_shares_b1 (j := 22) rfl) rfl
theorem dR_shares_119 : decode (mcc mR_shares) 119 = .ok (.aload_n 0, 1) := o42 (byt_of hR_shares_b1 (j := 23) rfl)
theorem dR_shares_120 : decode (mcc mR_shares) 120 = .ok (.getfield 134, 3) := o180 (a := 0) (b := 134) (byt_of hR_shares_b1 (j := 24) rfl) (byt_of hR_shares_b1 (j := 25) rfl) (byt_of hR_shares_b1 (j := 26) rfl) rfl
theorem dR_shares_123 : decode (mcc mR_shares) 123 = .ok (.iload 5, 2) := o21 (a := 5) (byt_of hR_shares_b1 (j := 27) rfl) (byt_of hR_shares_b1 (j := 28) rfl)
theorem dR_shares_125 : decode (mcc mR_shares) 125 = .ok (.iaload, 1) := o46 (byt_of hR_shares_b1 (j := 29) rfl)
theorem dR_shares_126 : decode (mcc mR_shares) 126 = .ok (.aload_n 0, 1) := o42 (byt_of hR_shares_b1 (j := 30) rfl)
theorem dR_shares_127 : decode (mcc mR_shares) 127 = .ok (.getfield 38, 3) := o180 (a := 0) (b := 38) (byt_of hR_shares_b1 (j := 31) rfl) (byt_of hR_shares_b1 (j := 32) rfl) (byt_of hR_shares_b1 (j := 33) rfl) rfl
theorem dR_shares_130 : decode (mcc mR_shares) 130 = .ok (.iload 5, 2) := o21 (a := 5) (byt_of hR_shares_b1 (j := 34) rfl) (byt_of hR_shares_b1 (j := 35) rfl)
theorem dR_shares_132 : decode (mcc mR_shares) 132 = .ok (.iaload, 1) := o46 (byt_of hR_shares_b1 (j := 36) rfl)
theorem dR_shares_133 : decode (mcc mR_shares) 133 = .ok (.if_icmp .ge 7, 3) := o162 (a := 0) (b := 7) (byt_of hR_shares_b1 (j := 37) rfl) (byt_of hR_shares_b1 (j := 38) rfl) (byt_of hR_shares_b1 (j := 39) rfl) rfl
theorem dR_shares_136 : decode (mcc mR_shares) 136 = .ok (.iconst 1, 1) := o4 (byt_of hR_shares_b1 (j := 40) rfl)
theorem dR_shares_137 : decode (mcc mR_shares) 137 = .ok (.goto 4, 3) := o167 (a := 0) (b := 4) (byt_of hR_shares_b1 (j := 41) rfl) (byt_of hR_shares_b1 (j := 42) rfl) (byt_of hR_shares_b1 (j := 43) rfl) rfl
theorem dR_shares_140 : decode (mcc mR_shares) 140 = .ok (.iconst 0, 1) := o3 (byt_of hR_shares_b1 (j := 44) rfl)
theorem dR_shares_141 : decode (mcc mR_shares) 141 = .ok (.istore 6, 2) := o54 (a := 6) (byt_of hR_shares_b1 (j := 45) rfl) (byt_of hR_shares_b1 (j := 46) rfl)
theorem dR_shares_143 : decode (mcc mR_shares) 143 = .ok (.iload 6, 2) := o21 (a := 6) (byt_of hR_shares_b1 (j := 47) rfl) (byt_of hR_shares_b1 (j := 48) rfl)
theorem dR_shares_145 : decode (mcc mR_shares) 145 = .ok (.ifCond .eq 50, 3) := o153 (a := 0) (b := 50) (byt_of hR_shares_b1 (j := 49) rfl) (byt_of hR_shares_b1 (j := 50) rfl) (byt_of hR_shares_b1 (j := 51) rfl) rfl
theorem dR_shares_148 : decode (mcc mR_shares) 148 = .ok (.iload 4, 2) := o21 (a := 4) (byt_of hR_shares_b1 (j := 52) rfl) (byt_of hR_shares_b1 (j := 53) rfl)
theorem dR_shares_150 : decode (mcc mR_shares) 150 = .ok (.iconst (-1), 1) := o2 (byt_of hR_shares_b1 (j := 54) rfl)
theorem dR_shares_151 : decode (mcc mR_shares) 151 = .ok (.if_icmp .eq 40, 3) := o159 (a := 0) (b := 40) (byt_of hR_shares_b1 (j := 55) rfl) (byt_of hR_shares_b1 (j := 56) rfl) (byt_of hR_shares_b1 (j := 57) rfl) rfl
theorem dR_shares_154 : decode (mcc mR_shares) 154 = .ok (.aload_n 0, 1) := o42 (byt_of hR_shares_b1 (j := 58) rfl)
theorem dR_shares_155 : decode (mcc mR_shares) 155 = .ok (.getfield 35, 3) := o180 (a := 0) (b := 35) (byt_of hR_shares_b1 (j := 59) rfl) (byt_of hR_shares_b1 (j := 60) rfl) (byt_of hR_shares_b1 (j := 61) rfl) rfl
theorem dR_shares_158 : decode (mcc mR_shares) 158 = .ok (.iload 5, 2) := o21 (a := 5) (byt_of hR_shares_b1 (j := 62) rfl) (byt_of hR_shares_b1 (j := 63) rfl)
theorem dR_shares_160 : decode (mcc mR_shares) 160 = .ok (.iaload, 1) := o46 (byt_of hR_shares_b1 (j := 64) rfl)
theorem dR_shares_161 : decode (mcc mR_shares) 161 = .ok (.aload_n 0, 1) := o42 (byt_of hR_shares_b1 (j := 65) rfl)
theorem dR_shares_162 : decode (mcc mR_shares) 162 = .ok (.getfield 134, 3) := o180 (a := 0) (b := 134) (byt_of hR_shares_b1 (j := 66) rfl) (byt_of hR_shares_b1 (j := 67) rfl) (byt_of hR_shares_b1 (j := 68) rfl) rfl
theorem dR_shares_165 : decode (mcc mR_shares) 165 = .ok (.iload 5, 2) := o21 (a := 5) (byt_of hR_shares_b1 (j := 69) rfl) (byt_of hR_shares_b1 (j := 70) rfl)
theorem dR_shares_167 : decode (mcc mR_shares) 167 = .ok (.iaload, 1) := o46 (byt_of hR_shares_b1 (j := 71) rfl)
theorem dR_shares_168 : decode (mcc mR_shares) 168 = .ok (.iconst 1, 1) := o4 (byt_of hR_shares_b1 (j := 72) rfl)
theorem dR_shares_169 : decode (mcc mR_shares) 169 = .ok (.iadd, 1) := o96 (byt_of hR_shares_b1 (j := 73) rfl)
theorem dR_shares_170 : decode (mcc mR_shares) 170 = .ok (.imul, 1) := o104 (byt_of hR_shares_b1 (j := 74) rfl)
theorem dR_shares_171 : decode (mcc mR_shares) 171 = .ok (.aload_n 0, 1) := o42 (byt_of hR_shares_b1 (j := 75) rfl)
theorem dR_shares_172 : decode (mcc mR_shares) 172 = .ok (.getfield 35, 3) := o180 (a := 0) (b := 35) (byt_of hR_shares_b1 (j := 76) rfl) (byt_of hR_shares_b1 (j := 77) rfl) (byt_of hR_shares_b1 (j := 78) rfl) rfl
theorem dR_shares_175 : decode (mcc mR_shares) 175 = .ok (.iload 4, 2) := o21 (a := 4) (byt_of hR_shares_b1 (j := 79) rfl) (byt_of hR_shares_b1 (j := 80) rfl)
theorem dR_shares_177 : decode (mcc mR_shares) 177 = .ok (.iaload, 1) := o46 (byt_of hR_shares_b1 (j := 81) rfl)
theorem dR_shares_178 : decode (mcc mR_shares) 178 = .ok (.aload_n 0, 1) := o42 (byt_of hR_shares_b1 (j := 82) rfl)
theorem dR_shares_179 : decode (mcc mR_shares) 179 = .ok (.getfield 134, 3) := o180 (a := 0) (b := 134) (byt_of hR_shares_b1 (j := 83) rfl) (byt_of hR_shares_b1 (j := 84) rfl) (byt_of hR_shares_b1 (j := 85) rfl) rfl
theorem dR_shares_182 : decode (mcc mR_shares) 182 = .ok (.iload 4, 2) := o21 (a := 4) (byt_of hR_shares_b1 (j := 86) rfl) (byt_of hR_shares_b1 (j := 87) rfl)
theorem dR_shares_184 : decode (mcc mR_shares) 184 = .ok (.iaload, 1) := o46 (byt_of hR_shares_b1 (j := 88) rfl)
theorem dR_shares_185 : decode (mcc mR_shares) 185 = .ok (.iconst 1, 1) := o4 (byt_of hR_shares_b1 (j := 89) rfl)
theorem dR_shares_186 : decode (mcc mR_shares) 186 = .ok (.iadd, 1) := o96 (byt_of hR_shares_b1 (j := 90) rfl)
theorem dR_shares_187 : decode (mcc mR_shares) 187 = .ok (.imul, 1) := o104 (byt_of hR_shares_b1 (j := 91) rfl)
theorem dR_shares_188 : decode (mcc mR_shares) 188 = .ok (.if_icmp .ge 7, 3) := o162 (a := 0) (b := 7) (byt_of hR_shares_b1 (j := 92) rfl) (byt_of hR_shares_b1 (j := 93) rfl) (byt_of hR_shares_b1 (j := 94) rfl) rfl
theorem dR_shares_191 : decode (mcc mR_shares) 191 = .ok (.iload 5, 2) := o21 (a := 5) (byt_of hR_shares_b1 (j := 95) rfl) (byt_of hR_shares_b1 (j := 96) rfl)
def bR_shares_b2 : List Nat := [5, 54, 4, 132, 5, 1, 167, 255, 137, 21, 4, 2, 160, 0, 5, 3, 172, 42, 180, 0, 134, 21, 4, 92, 46, 4, 96, 79, 132, 3, 1, 167, 255, 96, 4, 172]
theorem hR_shares_b2 : BL (mcc mR_shares) 192 bR_shares_b2 := by decide +kernel
theorem dR_shares_193 : decode (mcc mR_shares) 193 = .ok (.istore 4, 2) := o54 (a := 4) (byt_of hR_shares_b2 (j := 1) rfl) (byt_of hR_shares_b2 (j := 2) rfl)
theorem dR_shares_195 : decode (mcc mR_shares) 195 = .ok (.iinc 5 1, 3) := o132 (a := 5) (b := 1) (byt_of hR_shares_b2 (j := 3) rfl) (byt_of hR_shares_b2 (j := 4) rfl) (byt_of hR_shares_b2 (j := 5) rfl) rfl
theorem dR_shares_198 : decode (mcc mR_shares) 198 = .ok (.goto (-119), 3) := o167 (a := 255) (b := 137) (byt_of hR_shares_b2 (j := 6) rfl) (byt_of hR_shares_b2 (j := 7) rfl) (byt_of hR_shares_b2 (j := 8) rfl) rfl
theorem dR_shares_201 : decode (mcc mR_shares) 201 = .ok (.iload 4, 2) := o21 (a := 4) (byt_of hR_shares_b2 (j := 9) rfl) (byt_of hR_shares_b2 (j := 10) rfl)
theorem dR_shares_203 : decode (mcc mR_shares) 203 = .ok (.iconst (-1), 1) := o2 (byt_of hR_shares_b2 (j := 11) rfl)
theorem dR_shares_204 : decode (mcc mR_shares) 204 = .ok (.if_icmp .ne 5, 3) := o160 (a := 0) (b := 5) (byt_of hR_shares_b2 (j := 12) rfl) (byt_of hR_shares_b2 (j := 13) rfl) (byt_of hR_shares_b2 (j := 14) rfl) rfl
theorem dR_shares_207 : decode (mcc mR_shares) 207 = .ok (.iconst 0, 1) := o3 (byt_of hR_shares_b2 (j := 15) rfl)
theorem dR_shares_208 : decode (mcc mR_shares) 208 = .ok (.ireturn, 1) := o172 (byt_of hR_shares_b2 (j := 16) rfl)
theorem dR_shares_209 : decode (mcc mR_shares) 209 = .ok (.aload_n 0, 1) := o42 (byt_of hR_shares_b2 (j := 17) rfl)
theorem dR_shares_210 : decode (mcc mR_shares) 210 = .ok (.getfield 134, 3) := o180 (a := 0) (b := 134) (byt_of hR_shares_b2 (j := 18) rfl) (byt_of hR_shares_b2 (j := 19) rfl) (byt_of hR_shares_b2 (j := 20) rfl) rfl
theorem dR_shares_213 : decode (mcc mR_shares) 213 = .ok (.iload 4, 2) := o21 (a := 4) (byt_of hR_shares_b2 (j := 21) rfl) (byt_of hR_shares_b2 (j := 22) rfl)
theorem dR_shares_215 : decode (mcc mR_shares) 215 = .ok (.dup2, 1) := o92 (byt_of hR_shares_b2 (j := 23) rfl)
theorem dR_shares_216 : decode (mcc mR_shares) 216 = .ok (.iaload, 1) := o46 (byt_of hR_shares_b2 (j := 24) rfl)
theorem dR_shares_217 : decode (mcc mR_shares) 217 = .ok (.iconst 1, 1) := o4 (byt_of hR_shares_b2 (j := 25) rfl)
theorem dR_shares_218 : decode (mcc mR_shares) 218 = .ok (.iadd, 1) := o96 (byt_of hR_shares_b2 (j := 26) rfl)
theorem dR_shares_219 : decode (mcc mR_shares) 219 = .ok (.iastore, 1) := o79 (byt_of hR_shares_b2 (j := 27) rfl)
theorem dR_shares_220 : decode (mcc mR_shares) 220 = .ok (.iinc 3 1, 3) := o132 (a := 3) (b := 1) (byt_of hR_shares_b2 (j := 28) rfl) (byt_of hR_shares_b2 (j := 29) rfl) (byt_of hR_shares_b2 (j := 30) rfl) rfl
theorem dR_shares_223 : decode (mcc mR_shares) 223 = .ok (.goto (-160), 3) := o167 (a := 255) (b := 96) (byt_of hR_shares_b2 (j := 31) rfl) (byt_of hR_shares_b2 (j := 32) rfl) (byt_of hR_shares_b2 (j := 33) rfl) rfl
theorem dR_shares_226 : decode (mcc mR_shares) 226 = .ok (.iconst 1, 1) := o4 (byt_of hR_shares_b2 (j := 34) rfl)
theorem dR_shares_227 : decode (mcc mR_shares) 227 = .ok (.ireturn, 1) := o172 (byt_of hR_shares_b2 (j := 35) rfl)
def bR_even_b0 : List Nat := [42, 27, 182, 0, 236, 153, 0, 11, 42, 28, 182, 0, 230, 154, 0, 6, 16, 251, 172, 42, 27, 182, 1, 73, 153, 0, 12, 42, 180, 0, 134, 28, 46, 167, 0, 5, 16, 253, 172]
theorem hR_even_b0 : BL (mcc mR_even) 0 bR_even_b0 := by decide +kernel
theorem dR_even_0 : decode (mcc mR_even) 0 = .ok (.aload_n 0, 1) := o42 (byt_of hR_even_b0 (j := 0) rfl)
theorem dR_even_1 : decode (mcc mR_even) 1 = .ok (.iload_n 1, 1) := o27 (byt_of hR_even_b0 (j := 1) rfl)
theorem dR_even_2 : decode (mcc mR_even) 2 = .ok (.invokevirtual 236, 3) := o182 (a := 0) (b := 236) (byt_of hR_even_b0 (j := 2) rfl) (byt_of hR_even_b0 (j := 3) rfl) (byt_of hR_even_b0 (j := 4) rfl) rfl
theorem dR_even_5 : decode (mcc mR_even) 5 = .ok (.ifCond .eq 11, 3) := o153 (a := 0) (b := 11) (byt_of hR_even_b0 (j := 5) rfl) (byt_of hR_even_b0 (j := 6) rfl) (byt_of hR_even_b0 (j := 7) rfl) rfl
theorem dR_even_8 : decode (mcc mR_even) 8 = .ok (.aload_n 0, 1) := o42 (byt_of hR_even_b0 (j := 8) rfl)
theorem dR_even_9 : decode (mcc mR_even) 9 = .ok (.iload_n 2, 1) := o28 (byt_of hR_even_b0 (j := 9) rfl)
theorem dR_even_10 : decode (mcc mR_even) 10 = .ok (.invokevirtual 230, 3) := o182 (a := 0) (b := 230) (byt_of hR_even_b0 (j := 10) rfl) (byt_of hR_even_b0 (j := 11) rfl) (byt_of hR_even_b0 (j := 12) rfl) rfl
theorem dR_even_13 : decode (mcc mR_even) 13 = .ok (.ifCond .ne 6, 3) := o154 (a := 0) (b := 6) (byt_of hR_even_b0 (j := 13) rfl) (byt_of hR_even_b0 (j := 14) rfl) (byt_of hR_even_b0 (j := 15) rfl) rfl
theorem dR_even_16 : decode (mcc mR_even) 16 = .ok (.bipush (-5), 2) := o16 (a := 251) (byt_of hR_even_b0 (j := 16) rfl) (byt_of hR_even_b0 (j := 17) rfl) rfl
theorem dR_even_18 : decode (mcc mR_even) 18 = .ok (.ireturn, 1) := o172 (byt_of hR_even_b0 (j := 18) rfl)
theorem dR_even_19 : decode (mcc mR_even) 19 = .ok (.aload_n 0, 1) := o42 (byt_of hR_even_b0 (j := 19) rfl)
theorem dR_even_20 : decode (mcc mR_even) 20 = .ok (.iload_n 1, 1) := o27 (byt_of hR_even_b0 (j := 20) rfl)
theorem dR_even_21 : decode (mcc mR_even) 21 = .ok (.invokevirtual 329, 3) := o182 (a := 1) (b := 73) (byt_of hR_even_b0 (j := 21) rfl) (byt_of hR_even_b0 (j := 22) rfl) (byt_of hR_even_b0 (j := 23) rfl) rfl
theorem dR_even_24 : decode (mcc mR_even) 24 = .ok (.ifCond .eq 12, 3) := o153 (a := 0) (b := 12) (byt_of hR_even_b0 (j := 24) rfl) (byt_of hR_even_b0 (j := 25) rfl) (byt_of hR_even_b0 (j := 26) rfl) rfl
theorem dR_even_27 : decode (mcc mR_even) 27 = .ok (.aload_n 0, 1) := o42 (byt_of hR_even_b0 (j := 27) rfl)
theorem dR_even_28 : decode (mcc mR_even) 28 = .ok (.getfield 134, 3) := o180 (a := 0) (b := 134) (byt_of hR_even_b0 (j := 28) rfl) (byt_of hR_even_b0 (j := 29) rfl) (byt_of hR_even_b0 (j := 30) rfl) rfl
theorem dR_even_31 : decode (mcc mR_even) 31 = .ok (.iload_n 2, 1) := o28 (byt_of hR_even_b0 (j := 31) rfl)
theorem dR_even_32 : decode (mcc mR_even) 32 = .ok (.iaload, 1) := o46 (byt_of hR_even_b0 (j := 32) rfl)
theorem dR_even_33 : decode (mcc mR_even) 33 = .ok (.goto 5, 3) := o167 (a := 0) (b := 5) (byt_of hR_even_b0 (j := 33) rfl) (byt_of hR_even_b0 (j := 34) rfl) (byt_of hR_even_b0 (j := 35) rfl) rfl
theorem dR_even_36 : decode (mcc mR_even) 36 = .ok (.bipush (-3), 2) := o16 (a := 253) (byt_of hR_even_b0 (j := 36) rfl) (byt_of hR_even_b0 (j := 37) rfl) rfl
theorem dR_even_38 : decode (mcc mR_even) 38 = .ok (.ireturn, 1) := o172 (byt_of hR_even_b0 (j := 38) rfl)
def bR_hardest_b0 : List Nat := [42, 27, 182, 0, 236, 154, 0, 6, 16, 251, 172, 42, 27, 182, 1, 73, 154, 0, 5, 2, 172, 3, 61, 3, 62, 29, 42, 180, 0, 148, 162, 0, 44, 42, 180, 0, 35, 29, 46, 42, 180, 0, 134, 29, 46, 104, 28, 164, 0, 19, 42, 180, 0, 35, 29, 46, 42, 180, 0, 134, 29, 46, 104, 167, 0, 4, 28, 61, 132, 3, 1, 167, 255, 210, 28, 172]
theorem hR_hardest_b0 : BL (mcc mR_hardest) 0 bR_hardest_b0 := by decide +kernel
theorem dR_hardest_0 : decode (mcc mR_hardest) 0 = .ok (.aload_n 0, 1) := o42 (byt_of hR_hardest_b0 (j := 0) rfl)
theorem dR_hardest_1 : decode (mcc mR_hardest) 1 = .ok (.iload_n 1, 1) := o27 (byt_of hR_hardest_b0 (j := 1) rfl)
theorem dR_hardest_2 : decode (mcc mR_hardest) 2 = .ok (.invokevirtual 236, 3) := o182 (a := 0) (b := 236) (byt_of hR_hardest_b0 (j := 2) rfl) (byt_of hR_hardest_b0 (j := 3) rfl) (byt_of hR_hardest_b0 (j := 4) rfl) rfl
theorem dR_hardest_5 : decode (mcc mR_hardest) 5 = .ok (.ifCond .ne 6, 3) := o154 (a := 0) (b := 6) (byt_of hR_hardest_b0 (j := 5) rfl) (byt_of hR_hardest_b0 (j := 6) rfl) (byt_of hR_hardest_b0 (j := 7) rfl) rfl
theorem dR_hardest_8 : decode (mcc mR_hardest) 8 = .ok (.bipush (-5), 2) := o16 (a := 251) (byt_of hR_hardest_b0 (j := 8) rfl) (byt_of hR_hardest_b0 (j := 9) rfl) rfl
theorem dR_hardest_10 : decode (mcc mR_hardest) 10 = .ok (.ireturn, 1) := o172 (byt_of hR_hardest_b0 (j := 10) rfl)
theorem dR_hardest_11 : decode (mcc mR_hardest) 11 = .ok (.aload_n 0, 1) := o42 (byt_of hR_hardest_b0 (j := 11) rfl)
theorem dR_hardest_12 : decode (mcc mR_hardest) 12 = .ok (.iload_n 1, 1) := o27 (byt_of hR_hardest_b0 (j := 12) rfl)
theorem dR_hardest_13 : decode (mcc mR_hardest) 13 = .ok (.invokevirtual 329, 3) := o182 (a := 1) (b := 73) (byt_of hR_hardest_b0 (j := 13) rfl) (byt_of hR_hardest_b0 (j := 14) rfl) (byt_of hR_hardest_b0 (j := 15) rfl) rfl
theorem dR_hardest_16 : decode (mcc mR_hardest) 16 = .ok (.ifCond .ne 5, 3) := o154 (a := 0) (b := 5) (byt_of hR_hardest_b0 (j := 16) rfl) (byt_of hR_hardest_b0 (j := 17) rfl) (byt_of hR_hardest_b0 (j := 18) rfl) rfl
theorem dR_hardest_19 : decode (mcc mR_hardest) 19 = .ok (.iconst (-1), 1) := o2 (byt_of hR_hardest_b0 (j := 19) rfl)
theorem dR_hardest_20 : decode (mcc mR_hardest) 20 = .ok (.ireturn, 1) := o172 (byt_of hR_hardest_b0 (j := 20) rfl)
theorem dR_hardest_21 : decode (mcc mR_hardest) 21 = .ok (.iconst 0, 1) := o3 (byt_of hR_hardest_b0 (j := 21) rfl)
theorem dR_hardest_22 : decode (mcc mR_hardest) 22 = .ok (.istore_n 2, 1) := o61 (byt_of hR_hardest_b0 (j := 22) rfl)
theorem dR_hardest_23 : decode (mcc mR_hardest) 23 = .ok (.iconst 0, 1) := o3 (byt_of hR_hardest_b0 (j := 23) rfl)
theorem dR_hardest_24 : decode (mcc mR_hardest) 24 = .ok (.istore_n 3, 1) := o62 (byt_of hR_hardest_b0 (j := 24) rfl)
theorem dR_hardest_25 : decode (mcc mR_hardest) 25 = .ok (.iload_n 3, 1) := o29 (byt_of hR_hardest_b0 (j := 25) rfl)
theorem dR_hardest_26 : decode (mcc mR_hardest) 26 = .ok (.aload_n 0, 1) := o42 (byt_of hR_hardest_b0 (j := 26) rfl)
theorem dR_hardest_27 : decode (mcc mR_hardest) 27 = .ok (.getfield 148, 3) := o180 (a := 0) (b := 148) (byt_of hR_hardest_b0 (j := 27) rfl) (byt_of hR_hardest_b0 (j := 28) rfl) (byt_of hR_hardest_b0 (j := 29) rfl) rfl
theorem dR_hardest_30 : decode (mcc mR_hardest) 30 = .ok (.if_icmp .ge 44, 3) := o162 (a := 0) (b := 44) (byt_of hR_hardest_b0 (j := 30) rfl) (byt_of hR_hardest_b0 (j := 31) rfl) (byt_of hR_hardest_b0 (j := 32) rfl) rfl
theorem dR_hardest_33 : decode (mcc mR_hardest) 33 = .ok (.aload_n 0, 1) := o42 (byt_of hR_hardest_b0 (j := 33) rfl)
theorem dR_hardest_34 : decode (mcc mR_hardest) 34 = .ok (.getfield 35, 3) := o180 (a := 0) (b := 35) (byt_of hR_hardest_b0 (j := 34) rfl) (byt_of hR_hardest_b0 (j := 35) rfl) (byt_of hR_hardest_b0 (j := 36) rfl) rfl
theorem dR_hardest_37 : decode (mcc mR_hardest) 37 = .ok (.iload_n 3, 1) := o29 (byt_of hR_hardest_b0 (j := 37) rfl)
theorem dR_hardest_38 : decode (mcc mR_hardest) 38 = .ok (.iaload, 1) := o46 (byt_of hR_hardest_b0 (j := 38) rfl)
theorem dR_hardest_39 : decode (mcc mR_hardest) 39 = .ok (.aload_n 0, 1) := o42 (byt_of hR_hardest_b0 (j := 39) rfl)
theorem dR_hardest_40 : decode (mcc mR_hardest) 40 = .ok (.getfield 134, 3) := o180 (a := 0) (b := 134) (byt_of hR_hardest_b0 (j := 40) rfl) (byt_of hR_hardest_b0 (j := 41) rfl) (byt_of hR_hardest_b0 (j := 42) rfl) rfl
theorem dR_hardest_43 : decode (mcc mR_hardest) 43 = .ok (.iload_n 3, 1) := o29 (byt_of hR_hardest_b0 (j := 43) rfl)
theorem dR_hardest_44 : decode (mcc mR_hardest) 44 = .ok (.iaload, 1) := o46 (byt_of hR_hardest_b0 (j := 44) rfl)
theorem dR_hardest_45 : decode (mcc mR_hardest) 45 = .ok (.imul, 1) := o104 (byt_of hR_hardest_b0 (j := 45) rfl)
theorem dR_hardest_46 : decode (mcc mR_hardest) 46 = .ok (.iload_n 2, 1) := o28 (byt_of hR_hardest_b0 (j := 46) rfl)
theorem dR_hardest_47 : decode (mcc mR_hardest) 47 = .ok (.if_icmp .le 19, 3) := o164 (a := 0) (b := 19) (byt_of hR_hardest_b0 (j := 47) rfl) (byt_of hR_hardest_b0 (j := 48) rfl) (byt_of hR_hardest_b0 (j := 49) rfl) rfl
theorem dR_hardest_50 : decode (mcc mR_hardest) 50 = .ok (.aload_n 0, 1) := o42 (byt_of hR_hardest_b0 (j := 50) rfl)
theorem dR_hardest_51 : decode (mcc mR_hardest) 51 = .ok (.getfield 35, 3) := o180 (a := 0) (b := 35) (byt_of hR_hardest_b0 (j := 51) rfl) (byt_of hR_hardest_b0 (j := 52) rfl) (byt_of hR_hardest_b0 (j := 53) rfl) rfl
theorem dR_hardest_54 : decode (mcc mR_hardest) 54 = .ok (.iload_n 3, 1) := o29 (byt_of hR_hardest_b0 (j := 54) rfl)
theorem dR_hardest_55 : decode (mcc mR_hardest) 55 = .ok (.iaload, 1) := o46 (byt_of hR_hardest_b0 (j := 55) rfl)
theorem dR_hardest_56 : decode (mcc mR_hardest) 56 = .ok (.aload_n 0, 1) := o42 (byt_of hR_hardest_b0 (j := 56) rfl)
theorem dR_hardest_57 : decode (mcc mR_hardest) 57 = .ok (.getfield 134, 3) := o180 (a := 0) (b := 134) (byt_of hR_hardest_b0 (j := 57) rfl) (byt_of hR_hardest_b0 (j := 58) rfl) (byt_of hR_hardest_b0 (j := 59) rfl) rfl
theorem dR_hardest_60 : decode (mcc mR_hardest) 60 = .ok (.iload_n 3, 1) := o29 (byt_of hR_hardest_b0 (j := 60) rfl)
theorem dR_hardest_61 : decode (mcc mR_hardest) 61 = .ok (.iaload, 1) := o46 (byt_of hR_hardest_b0 (j := 61) rfl)
theorem dR_hardest_62 : decode (mcc mR_hardest) 62 = .ok (.imul, 1) := o104 (byt_of hR_hardest_b0 (j := 62) rfl)
theorem dR_hardest_63 : decode (mcc mR_hardest) 63 = .ok (.goto 4, 3) := o167 (a := 0) (b := 4) (byt_of hR_hardest_b0 (j := 63) rfl) (byt_of hR_hardest_b0 (j := 64) rfl) (byt_of hR_hardest_b0 (j := 65) rfl) rfl
theorem dR_hardest_66 : decode (mcc mR_hardest) 66 = .ok (.iload_n 2, 1) := o28 (byt_of hR_hardest_b0 (j := 66) rfl)
theorem dR_hardest_67 : decode (mcc mR_hardest) 67 = .ok (.istore_n 2, 1) := o61 (byt_of hR_hardest_b0 (j := 67) rfl)
theorem dR_hardest_68 : decode (mcc mR_hardest) 68 = .ok (.iinc 3 1, 3) := o132 (a := 3) (b := 1) (byt_of hR_hardest_b0 (j := 68) rfl) (byt_of hR_hardest_b0 (j := 69) rfl) (byt_of hR_hardest_b0 (j := 70) rfl) rfl
theorem dR_hardest_71 : decode (mcc mR_hardest) 71 = .ok (.goto (-46), 3) := o167 (a := 255) (b := 210) (byt_of hR_hardest_b0 (j := 71) rfl) (byt_of hR_hardest_b0 (j := 72) rfl) (byt_of hR_hardest_b0 (j := 73) rfl) rfl
theorem dR_hardest_74 : decode (mcc mR_hardest) 74 = .ok (.iload_n 2, 1) := o28 (byt_of hR_hardest_b0 (j := 74) rfl)
theorem dR_hardest_75 : decode (mcc mR_hardest) 75 = .ok (.ireturn, 1) := o172 (byt_of hR_hardest_b0 (j := 75) rfl)
def bR_owedAt_b0 : List Nat := [42, 180, 0, 41, 27, 46, 62, 42, 180, 0, 41, 27, 28, 79, 42, 42, 180, 0, 158, 182, 1, 39, 42, 180, 0, 41, 27, 29, 79, 42, 27, 182, 1, 42, 172]
theorem hR_owedAt_b0 : BL (mcc mR_owedAt) 0 bR_owedAt_b0 := by decide +kernel
theorem dR_owedAt_0 : decode (mcc mR_owedAt) 0 = .ok (.aload_n 0, 1) := o42 (byt_of hR_owedAt_b0 (j := 0) rfl)
theorem dR_owedAt_1 : decode (mcc mR_owedAt) 1 = .ok (.getfield 41, 3) := o180 (a := 0) (b := 41) (byt_of hR_owedAt_b0 (j := 1) rfl) (byt_of hR_owedAt_b0 (j := 2) rfl) (byt_of hR_owedAt_b0 (j := 3) rfl) rfl
theorem dR_owedAt_4 : decode (mcc mR_owedAt) 4 = .ok (.iload_n 1, 1) := o27 (byt_of hR_owedAt_b0 (j := 4) rfl)
theorem dR_owedAt_5 : decode (mcc mR_owedAt) 5 = .ok (.iaload, 1) := o46 (byt_of hR_owedAt_b0 (j := 5) rfl)
theorem dR_owedAt_6 : decode (mcc mR_owedAt) 6 = .ok (.istore_n 3, 1) := o62 (byt_of hR_owedAt_b0 (j := 6) rfl)
theorem dR_owedAt_7 : decode (mcc mR_owedAt) 7 = .ok (.aload_n 0, 1) := o42 (byt_of hR_owedAt_b0 (j := 7) rfl)
theorem dR_owedAt_8 : decode (mcc mR_owedAt) 8 = .ok (.getfield 41, 3) := o180 (a := 0) (b := 41) (byt_of hR_owedAt_b0 (j := 8) rfl) (byt_of hR_owedAt_b0 (j := 9) rfl) (byt_of hR_owedAt_b0 (j := 10) rfl) rfl
theorem dR_owedAt_11 : decode (mcc mR_owedAt) 11 = .ok (.iload_n 1, 1) := o27 (byt_of hR_owedAt_b0 (j := 11) rfl)
theorem dR_owedAt_12 : decode (mcc mR_owedAt) 12 = .ok (.iload_n 2, 1) := o28 (byt_of hR_owedAt_b0 (j := 12) rfl)
theorem dR_owedAt_13 : decode (mcc mR_owedAt) 13 = .ok (.iastore, 1) := o79 (byt_of hR_owedAt_b0 (j := 13) rfl)
theorem dR_owedAt_14 : decode (mcc mR_owedAt) 14 = .ok (.aload_n 0, 1) := o42 (byt_of hR_owedAt_b0 (j := 14) rfl)
theorem dR_owedAt_15 : decode (mcc mR_owedAt) 15 = .ok (.aload_n 0, 1) := o42 (byt_of hR_owedAt_b0 (j := 15) rfl)
theorem dR_owedAt_16 : decode (mcc mR_owedAt) 16 = .ok (.getfield 158, 3) := o180 (a := 0) (b := 158) (byt_of hR_owedAt_b0 (j := 16) rfl) (byt_of hR_owedAt_b0 (j := 17) rfl) (byt_of hR_owedAt_b0 (j := 18) rfl) rfl
theorem dR_owedAt_19 : decode (mcc mR_owedAt) 19 = .ok (.invokevirtual 295, 3) := o182 (a := 1) (b := 39) (byt_of hR_owedAt_b0 (j := 19) rfl) (byt_of hR_owedAt_b0 (j := 20) rfl) (byt_of hR_owedAt_b0 (j := 21) rfl) rfl
theorem dR_owedAt_22 : decode (mcc mR_owedAt) 22 = .ok (.aload_n 0, 1) := o42 (byt_of hR_owedAt_b0 (j := 22) rfl)
theorem dR_owedAt_23 : decode (mcc mR_owedAt) 23 = .ok (.getfield 41, 3) := o180 (a := 0) (b := 41) (byt_of hR_owedAt_b0 (j := 23) rfl) (byt_of hR_owedAt_b0 (j := 24) rfl) (byt_of hR_owedAt_b0 (j := 25) rfl) rfl
theorem dR_owedAt_26 : decode (mcc mR_owedAt) 26 = .ok (.iload_n 1, 1) := o27 (byt_of hR_owedAt_b0 (j := 26) rfl)
theorem dR_owedAt_27 : decode (mcc mR_owedAt) 27 = .ok (.iload_n 3, 1) := o29 (byt_of hR_owedAt_b0 (j := 27) rfl)
theorem dR_owedAt_28 : decode (mcc mR_owedAt) 28 = .ok (.iastore, 1) := o79 (byt_of hR_owedAt_b0 (j := 28) rfl)
theorem dR_owedAt_29 : decode (mcc mR_owedAt) 29 = .ok (.aload_n 0, 1) := o42 (byt_of hR_owedAt_b0 (j := 29) rfl)
theorem dR_owedAt_30 : decode (mcc mR_owedAt) 30 = .ok (.iload_n 1, 1) := o27 (byt_of hR_owedAt_b0 (j := 30) rfl)
theorem dR_owedAt_31 : decode (mcc mR_owedAt) 31 = .ok (.invokevirtual 298, 3) := o182 (a := 1) (b := 42) (byt_of hR_owedAt_b0 (j := 31) rfl) (byt_of hR_owedAt_b0 (j := 32) rfl) (byt_of hR_owedAt_b0 (j := 33) rfl) rfl
theorem dR_owedAt_34 : decode (mcc mR_owedAt) 34 = .ok (.ireturn, 1) := o172 (byt_of hR_owedAt_b0 (j := 34) rfl)
def bR_goesTo_b0 : List Nat := [3, 62, 42, 27, 3, 182, 1, 76, 54, 4, 4, 54, 5, 21, 5, 8, 163, 0, 46, 42, 27, 21, 5, 182, 1, 76, 54, 6, 28, 153, 0, 13, 21, 6, 21, 4, 164, 0, 20, 167, 0, 10, 21, 6, 21, 4, 162, 0, 10, 21, 5, 62, 21, 6, 54, 4, 132, 5, 1, 167, 255, 210, 29, 172]
theorem hR_goesTo_b0 : BL (mcc mR_goesTo) 0 bR_goesTo_b0 := by decide +kernel
theorem dR_goesTo_0 : decode (mcc mR_goesTo) 0 = .ok (.iconst 0, 1) := o3 (byt_of hR_goesTo_b0 (j := 0) rfl)
theorem dR_goesTo_1 : decode (mcc mR_goesTo) 1 = .ok (.istore_n 3, 1) := o62 (byt_of hR_goesTo_b0 (j := 1) rfl)
theorem dR_goesTo_2 : decode (mcc mR_goesTo) 2 = .ok (.aload_n 0, 1) := o42 (byt_of hR_goesTo_b0 (j := 2) rfl)
theorem dR_goesTo_3 : decode (mcc mR_goesTo) 3 = .ok (.iload_n 1, 1) := o27 (byt_of hR_goesTo_b0 (j := 3) rfl)
theorem dR_goesTo_4 : decode (mcc mR_goesTo) 4 = .ok (.iconst 0, 1) := o3 (byt_of hR_goesTo_b0 (j := 4) rfl)
theorem dR_goesTo_5 : decode (mcc mR_goesTo) 5 = .ok (.invokevirtual 332, 3) := o182 (a := 1) (b := 76) (byt_of hR_goesTo_b0 (j := 5) rfl) (byt_of hR_goesTo_b0 (j := 6) rfl) (byt_of hR_goesTo_b0 (j := 7) rfl) rfl
theorem dR_goesTo_8 : decode (mcc mR_goesTo) 8 = .ok (.istore 4, 2) := o54 (a := 4) (byt_of hR_goesTo_b0 (j := 8) rfl) (byt_of hR_goesTo_b0 (j := 9) rfl)
theorem dR_goesTo_10 : decode (mcc mR_goesTo) 10 = .ok (.iconst 1, 1) := o4 (byt_of hR_goesTo_b0 (j := 10) rfl)
theorem dR_goesTo_11 : decode (mcc mR_goesTo) 11 = .ok (.istore 5, 2) := o54 (a := 5) (byt_of hR_goesTo_b0 (j := 11) rfl) (byt_of hR_goesTo_b0 (j := 12) rfl)
theorem dR_goesTo_13 : decode (mcc mR_goesTo) 13 = .ok (.iload 5, 2) := o21 (a := 5) (byt_of hR_goesTo_b0 (j := 13) rfl) (byt_of hR_goesTo_b0 (j := 14) rfl)
theorem dR_goesTo_15 : decode (mcc mR_goesTo) 15 = .ok (.iconst 5, 1) := o8 (byt_of hR_goesTo_b0 (j := 15) rfl)
theorem dR_goesTo_16 : decode (mcc mR_goesTo) 16 = .ok (.if_icmp .gt 46, 3) := o163 (a := 0) (b := 46) (byt_of hR_goesTo_b0 (j := 16) rfl) (byt_of hR_goesTo_b0 (j := 17) rfl) (byt_of hR_goesTo_b0 (j := 18) rfl) rfl
theorem dR_goesTo_19 : decode (mcc mR_goesTo) 19 = .ok (.aload_n 0, 1) := o42 (byt_of hR_goesTo_b0 (j := 19) rfl)
theorem dR_goesTo_20 : decode (mcc mR_goesTo) 20 = .ok (.iload_n 1, 1) := o27 (byt_of hR_goesTo_b0 (j := 20) rfl)
theorem dR_goesTo_21 : decode (mcc mR_goesTo) 21 = .ok (.iload 5, 2) := o21 (a := 5) (byt_of hR_goesTo_b0 (j := 21) rfl) (byt_of hR_goesTo_b0 (j := 22) rfl)
theorem dR_goesTo_23 : decode (mcc mR_goesTo) 23 = .ok (.invokevirtual 332, 3) := o182 (a := 1) (b := 76) (byt_of hR_goesTo_b0 (j := 23) rfl) (byt_of hR_goesTo_b0 (j := 24) rfl) (byt_of hR_goesTo_b0 (j := 25) rfl) rfl
theorem dR_goesTo_26 : decode (mcc mR_goesTo) 26 = .ok (.istore 6, 2) := o54 (a := 6) (byt_of hR_goesTo_b0 (j := 26) rfl) (byt_of hR_goesTo_b0 (j := 27) rfl)
theorem dR_goesTo_28 : decode (mcc mR_goesTo) 28 = .ok (.iload_n 2, 1) := o28 (byt_of hR_goesTo_b0 (j := 28) rfl)
theorem dR_goesTo_29 : decode (mcc mR_goesTo) 29 = .ok (.ifCond .eq 13, 3) := o153 (a := 0) (b := 13) (byt_of hR_goesTo_b0 (j := 29) rfl) (byt_of hR_goesTo_b0 (j := 30) rfl) (byt_of hR_goesTo_b0 (j := 31) rfl) rfl
theorem dR_goesTo_32 : decode (mcc mR_goesTo) 32 = .ok (.iload 6, 2) := o21 (a := 6) (byt_of hR_goesTo_b0 (j := 32) rfl) (byt_of hR_goesTo_b0 (j := 33) rfl)
theorem dR_goesTo_34 : decode (mcc mR_goesTo) 34 = .ok (.iload 4, 2) := o21 (a := 4) (byt_of hR_goesTo_b0 (j := 34) rfl) (byt_of hR_goesTo_b0 (j := 35) rfl)
theorem dR_goesTo_36 : decode (mcc mR_goesTo) 36 = .ok (.if_icmp .le 20, 3) := o164 (a := 0) (b := 20) (byt_of hR_goesTo_b0 (j := 36) rfl) (byt_of hR_goesTo_b0 (j := 37) rfl) (byt_of hR_goesTo_b0 (j := 38) rfl) rfl
theorem dR_goesTo_39 : decode (mcc mR_goesTo) 39 = .ok (.goto 10, 3) := o167 (a := 0) (b := 10) (byt_of hR_goesTo_b0 (j := 39) rfl) (byt_of hR_goesTo_b0 (j := 40) rfl) (byt_of hR_goesTo_b0 (j := 41) rfl) rfl
theorem dR_goesTo_42 : decode (mcc mR_goesTo) 42 = .ok (.iload 6, 2) := o21 (a := 6) (byt_of hR_goesTo_b0 (j := 42) rfl) (byt_of hR_goesTo_b0 (j := 43) rfl)
theorem dR_goesTo_44 : decode (mcc mR_goesTo) 44 = .ok (.iload 4, 2) := o21 (a := 4) (byt_of hR_goesTo_b0 (j := 44) rfl) (byt_of hR_goesTo_b0 (j := 45) rfl)
theorem dR_goesTo_46 : decode (mcc mR_goesTo) 46 = .ok (.if_icmp .ge 10, 3) := o162 (a := 0) (b := 10) (byt_of hR_goesTo_b0 (j := 46) rfl) (byt_of hR_goesTo_b0 (j := 47) rfl) (byt_of hR_goesTo_b0 (j := 48) rfl) rfl
theorem dR_goesTo_49 : decode (mcc mR_goesTo) 49 = .ok (.iload 5, 2) := o21 (a := 5) (byt_of hR_goesTo_b0 (j := 49) rfl) (byt_of hR_goesTo_b0 (j := 50) rfl)
theorem dR_goesTo_51 : decode (mcc mR_goesTo) 51 = .ok (.istore_n 3, 1) := o62 (byt_of hR_goesTo_b0 (j := 51) rfl)
theorem dR_goesTo_52 : decode (mcc mR_goesTo) 52 = .ok (.iload 6, 2) := o21 (a := 6) (byt_of hR_goesTo_b0 (j := 52) rfl) (byt_of hR_goesTo_b0 (j := 53) rfl)
theorem dR_goesTo_54 : decode (mcc mR_goesTo) 54 = .ok (.istore 4, 2) := o54 (a := 4) (byt_of hR_goesTo_b0 (j := 54) rfl) (byt_of hR_goesTo_b0 (j := 55) rfl)
theorem dR_goesTo_56 : decode (mcc mR_goesTo) 56 = .ok (.iinc 5 1, 3) := o132 (a := 5) (b := 1) (byt_of hR_goesTo_b0 (j := 56) rfl) (byt_of hR_goesTo_b0 (j := 57) rfl) (byt_of hR_goesTo_b0 (j := 58) rfl) rfl
theorem dR_goesTo_59 : decode (mcc mR_goesTo) 59 = .ok (.goto (-46), 3) := o167 (a := 255) (b := 210) (byt_of hR_goesTo_b0 (j := 59) rfl) (byt_of hR_goesTo_b0 (j := 60) rfl) (byt_of hR_goesTo_b0 (j := 61) rfl) rfl
theorem dR_goesTo_62 : decode (mcc mR_goesTo) 62 = .ok (.iload_n 3, 1) := o29 (byt_of hR_goesTo_b0 (j := 62) rfl)
theorem dR_goesTo_63 : decode (mcc mR_goesTo) 63 = .ok (.ireturn, 1) := o172 (byt_of hR_goesTo_b0 (j := 63) rfl)
def bR_flee_b0 : List Nat := [42, 27, 182, 0, 230, 154, 0, 6, 16, 251, 172, 28, 3, 4, 184, 0, 151, 154, 0, 6, 16, 249, 172, 42, 27, 3, 182, 1, 79, 62, 28, 154, 0, 7, 29, 167, 0, 9, 42, 27, 29, 182, 1, 76, 172]
theorem hR_flee_b0 : BL (mcc mR_flee) 0 bR_flee_b0 := by decide +kernel
theorem dR_flee_0 : decode (mcc mR_flee) 0 = .ok (.aload_n 0, 1) := o42 (byt_of hR_flee_b0 (j := 0) rfl)
theorem dR_flee_1 : decode (mcc mR_flee) 1 = .ok (.iload_n 1, 1) := o27 (byt_of hR_flee_b0 (j := 1) rfl)
theorem dR_flee_2 : decode (mcc mR_flee) 2 = .ok (.invokevirtual 230, 3) := o182 (a := 0) (b := 230) (byt_of hR_flee_b0 (j := 2) rfl) (byt_of hR_flee_b0 (j := 3) rfl) (byt_of hR_flee_b0 (j := 4) rfl) rfl
theorem dR_flee_5 : decode (mcc mR_flee) 5 = .ok (.ifCond .ne 6, 3) := o154 (a := 0) (b := 6) (byt_of hR_flee_b0 (j := 5) rfl) (byt_of hR_flee_b0 (j := 6) rfl) (byt_of hR_flee_b0 (j := 7) rfl) rfl
theorem dR_flee_8 : decode (mcc mR_flee) 8 = .ok (.bipush (-5), 2) := o16 (a := 251) (byt_of hR_flee_b0 (j := 8) rfl) (byt_of hR_flee_b0 (j := 9) rfl) rfl
theorem dR_flee_10 : decode (mcc mR_flee) 10 = .ok (.ireturn, 1) := o172 (byt_of hR_flee_b0 (j := 10) rfl)
theorem dR_flee_11 : decode (mcc mR_flee) 11 = .ok (.iload_n 2, 1) := o28 (byt_of hR_flee_b0 (j := 11) rfl)
theorem dR_flee_12 : decode (mcc mR_flee) 12 = .ok (.iconst 0, 1) := o3 (byt_of hR_flee_b0 (j := 12) rfl)
theorem dR_flee_13 : decode (mcc mR_flee) 13 = .ok (.iconst 1, 1) := o4 (byt_of hR_flee_b0 (j := 13) rfl)
theorem dR_flee_14 : decode (mcc mR_flee) 14 = .ok (.invokestatic 151, 3) := o184 (a := 0) (b := 151) (byt_of hR_flee_b0 (j := 14) rfl) (byt_of hR_flee_b0 (j := 15) rfl) (byt_of hR_flee_b0 (j := 16) rfl) rfl
theorem dR_flee_17 : decode (mcc mR_flee) 17 = .ok (.ifCond .ne 6, 3) := o154 (a := 0) (b := 6) (byt_of hR_flee_b0 (j := 17) rfl) (byt_of hR_flee_b0 (j := 18) rfl) (byt_of hR_flee_b0 (j := 19) rfl) rfl
theorem dR_flee_20 : decode (mcc mR_flee) 20 = .ok (.bipush (-7), 2) := o16 (a := 249) (byt_of hR_flee_b0 (j := 20) rfl) (byt_of hR_flee_b0 (j := 21) rfl) rfl
theorem dR_flee_22 : decode (mcc mR_flee) 22 = .ok (.ireturn, 1) := o172 (byt_of hR_flee_b0 (j := 22) rfl)
theorem dR_flee_23 : decode (mcc mR_flee) 23 = .ok (.aload_n 0, 1) := o42 (byt_of hR_flee_b0 (j := 23) rfl)
theorem dR_flee_24 : decode (mcc mR_flee) 24 = .ok (.iload_n 1, 1) := o27 (byt_of hR_flee_b0 (j := 24) rfl)
theorem dR_flee_25 : decode (mcc mR_flee) 25 = .ok (.iconst 0, 1) := o3 (byt_of hR_flee_b0 (j := 25) rfl)
theorem dR_flee_26 : decode (mcc mR_flee) 26 = .ok (.invokevirtual 335, 3) := o182 (a := 1) (b := 79) (byt_of hR_flee_b0 (j := 26) rfl) (byt_of hR_flee_b0 (j := 27) rfl) (byt_of hR_flee_b0 (j := 28) rfl) rfl
theorem dR_flee_29 : decode (mcc mR_flee) 29 = .ok (.istore_n 3, 1) := o62 (byt_of hR_flee_b0 (j := 29) rfl)
theorem dR_flee_30 : decode (mcc mR_flee) 30 = .ok (.iload_n 2, 1) := o28 (byt_of hR_flee_b0 (j := 30) rfl)
theorem dR_flee_31 : decode (mcc mR_flee) 31 = .ok (.ifCond .ne 7, 3) := o154 (a := 0) (b := 7) (byt_of hR_flee_b0 (j := 31) rfl) (byt_of hR_flee_b0 (j := 32) rfl) (byt_of hR_flee_b0 (j := 33) rfl) rfl
theorem dR_flee_34 : decode (mcc mR_flee) 34 = .ok (.iload_n 3, 1) := o29 (byt_of hR_flee_b0 (j := 34) rfl)
theorem dR_flee_35 : decode (mcc mR_flee) 35 = .ok (.goto 9, 3) := o167 (a := 0) (b := 9) (byt_of hR_flee_b0 (j := 35) rfl) (byt_of hR_flee_b0 (j := 36) rfl) (byt_of hR_flee_b0 (j := 37) rfl) rfl
theorem dR_flee_38 : decode (mcc mR_flee) 38 = .ok (.aload_n 0, 1) := o42 (byt_of hR_flee_b0 (j := 38) rfl)
theorem dR_flee_39 : decode (mcc mR_flee) 39 = .ok (.iload_n 1, 1) := o27 (byt_of hR_flee_b0 (j := 39) rfl)
theorem dR_flee_40 : decode (mcc mR_flee) 40 = .ok (.iload_n 3, 1) := o29 (byt_of hR_flee_b0 (j := 40) rfl)
theorem dR_flee_41 : decode (mcc mR_flee) 41 = .ok (.invokevirtual 332, 3) := o182 (a := 1) (b := 76) (byt_of hR_flee_b0 (j := 41) rfl) (byt_of hR_flee_b0 (j := 42) rfl) (byt_of hR_flee_b0 (j := 43) rfl) rfl
theorem dR_flee_44 : decode (mcc mR_flee) 44 = .ok (.ireturn, 1) := o172 (byt_of hR_flee_b0 (j := 44) rfl)
def bR_send_b0 : List Nat := [42, 27, 182, 0, 230, 154, 0, 6, 16, 251, 172, 28, 3, 4, 184, 0, 151, 154, 0, 6, 16, 249, 172, 42, 27, 4, 182, 1, 79, 62, 28, 154, 0, 7, 29, 167, 0, 9, 42, 27, 29, 182, 1, 76, 172]
theorem hR_send_b0 : BL (mcc mR_send) 0 bR_send_b0 := by decide +kernel
theorem dR_send_0 : decode (mcc mR_send) 0 = .ok (.aload_n 0, 1) := o42 (byt_of hR_send_b0 (j := 0) rfl)
theorem dR_send_1 : decode (mcc mR_send) 1 = .ok (.iload_n 1, 1) := o27 (byt_of hR_send_b0 (j := 1) rfl)
theorem dR_send_2 : decode (mcc mR_send) 2 = .ok (.invokevirtual 230, 3) := o182 (a := 0) (b := 230) (byt_of hR_send_b0 (j := 2) rfl) (byt_of hR_send_b0 (j := 3) rfl) (byt_of hR_send_b0 (j := 4) rfl) rfl
theorem dR_send_5 : decode (mcc mR_send) 5 = .ok (.ifCond .ne 6, 3) := o154 (a := 0) (b := 6) (byt_of hR_send_b0 (j := 5) rfl) (byt_of hR_send_b0 (j := 6) rfl) (byt_of hR_send_b0 (j := 7) rfl) rfl
theorem dR_send_8 : decode (mcc mR_send) 8 = .ok (.bipush (-5), 2) := o16 (a := 251) (byt_of hR_send_b0 (j := 8) rfl) (byt_of hR_send_b0 (j := 9) rfl) rfl
theorem dR_send_10 : decode (mcc mR_send) 10 = .ok (.ireturn, 1) := o172 (byt_of hR_send_b0 (j := 10) rfl)
theorem dR_send_11 : decode (mcc mR_send) 11 = .ok (.iload_n 2, 1) := o28 (byt_of hR_send_b0 (j := 11) rfl)
theorem dR_send_12 : decode (mcc mR_send) 12 = .ok (.iconst 0, 1) := o3 (byt_of hR_send_b0 (j := 12) rfl)
theorem dR_send_13 : decode (mcc mR_send) 13 = .ok (.iconst 1, 1) := o4 (byt_of hR_send_b0 (j := 13) rfl)
theorem dR_send_14 : decode (mcc mR_send) 14 = .ok (.invokestatic 151, 3) := o184 (a := 0) (b := 151) (byt_of hR_send_b0 (j := 14) rfl) (byt_of hR_send_b0 (j := 15) rfl) (byt_of hR_send_b0 (j := 16) rfl) rfl
theorem dR_send_17 : decode (mcc mR_send) 17 = .ok (.ifCond .ne 6, 3) := o154 (a := 0) (b := 6) (byt_of hR_send_b0 (j := 17) rfl) (byt_of hR_send_b0 (j := 18) rfl) (byt_of hR_send_b0 (j := 19) rfl) rfl
theorem dR_send_20 : decode (mcc mR_send) 20 = .ok (.bipush (-7), 2) := o16 (a := 249) (byt_of hR_send_b0 (j := 20) rfl) (byt_of hR_send_b0 (j := 21) rfl) rfl
theorem dR_send_22 : decode (mcc mR_send) 22 = .ok (.ireturn, 1) := o172 (byt_of hR_send_b0 (j := 22) rfl)
theorem dR_send_23 : decode (mcc mR_send) 23 = .ok (.aload_n 0, 1) := o42 (byt_of hR_send_b0 (j := 23) rfl)
theorem dR_send_24 : decode (mcc mR_send) 24 = .ok (.iload_n 1, 1) := o27 (byt_of hR_send_b0 (j := 24) rfl)
theorem dR_send_25 : decode (mcc mR_send) 25 = .ok (.iconst 1, 1) := o4 (byt_of hR_send_b0 (j := 25) rfl)
theorem dR_send_26 : decode (mcc mR_send) 26 = .ok (.invokevirtual 335, 3) := o182 (a := 1) (b := 79) (byt_of hR_send_b0 (j := 26) rfl) (byt_of hR_send_b0 (j := 27) rfl) (byt_of hR_send_b0 (j := 28) rfl) rfl
theorem dR_send_29 : decode (mcc mR_send) 29 = .ok (.istore_n 3, 1) := o62 (byt_of hR_send_b0 (j := 29) rfl)
theorem dR_send_30 : decode (mcc mR_send) 30 = .ok (.iload_n 2, 1) := o28 (byt_of hR_send_b0 (j := 30) rfl)
theorem dR_send_31 : decode (mcc mR_send) 31 = .ok (.ifCond .ne 7, 3) := o154 (a := 0) (b := 7) (byt_of hR_send_b0 (j := 31) rfl) (byt_of hR_send_b0 (j := 32) rfl) (byt_of hR_send_b0 (j := 33) rfl) rfl
theorem dR_send_34 : decode (mcc mR_send) 34 = .ok (.iload_n 3, 1) := o29 (byt_of hR_send_b0 (j := 34) rfl)
theorem dR_send_35 : decode (mcc mR_send) 35 = .ok (.goto 9, 3) := o167 (a := 0) (b := 9) (byt_of hR_send_b0 (j := 35) rfl) (byt_of hR_send_b0 (j := 36) rfl) (byt_of hR_send_b0 (j := 37) rfl) rfl
theorem dR_send_38 : decode (mcc mR_send) 38 = .ok (.aload_n 0, 1) := o42 (byt_of hR_send_b0 (j := 38) rfl)
theorem dR_send_39 : decode (mcc mR_send) 39 = .ok (.iload_n 1, 1) := o27 (byt_of hR_send_b0 (j := 39) rfl)
theorem dR_send_40 : decode (mcc mR_send) 40 = .ok (.iload_n 3, 1) := o29 (byt_of hR_send_b0 (j := 40) rfl)
theorem dR_send_41 : decode (mcc mR_send) 41 = .ok (.invokevirtual 332, 3) := o182 (a := 1) (b := 76) (byt_of hR_send_b0 (j := 41) rfl) (byt_of hR_send_b0 (j := 42) rfl) (byt_of hR_send_b0 (j := 43) rfl) rfl
theorem dR_send_44 : decode (mcc mR_send) 44 = .ok (.ireturn, 1) := o172 (byt_of hR_send_b0 (j := 44) rfl)
def bR_rest_b0 : List Nat := [27, 3, 16, 6, 184, 0, 151, 154, 0, 6, 16, 254, 172, 3, 61, 3, 62, 3, 54, 4, 28, 27, 162, 0, 78, 29, 42, 180, 0, 148, 162, 0, 70, 42, 21, 4, 3, 182, 1, 79, 54, 5, 42, 21, 4, 21, 5, 182, 1, 76, 42, 21, 4, 42, 180, 0, 41, 21, 4, 46, 182, 1, 76, 162, 0, 20, 42, 180, 0, 41, 21, 4, 21, 5, 79, 132, 2, 1, 3, 62, 167, 0, 6, 132, 3, 1, 21, 4, 4, 96, 42, 180, 0, 148, 112, 54, 4, 167, 255, 179, 28, 172]
theorem hR_rest_b0 : BL (mcc mR_rest) 0 bR_rest_b0 := by decide +kernel
theorem dR_rest_0 : decode (mcc mR_rest) 0 = .ok (.iload_n 1, 1) := o27 (byt_of hR_rest_b0 (j := 0) rfl)
theorem dR_rest_1 : decode (mcc mR_rest) 1 = .ok (.iconst 0, 1) := o3 (byt_of hR_rest_b0 (j := 1) rfl)
theorem dR_rest_2 : decode (mcc mR_rest) 2 = .ok (.bipush 6, 2) := o16 (a := 6) (byt_of hR_rest_b0 (j := 2) rfl) (byt_of hR_rest_b0 (j := 3) rfl) rfl
theorem dR_rest_4 : decode (mcc mR_rest) 4 = .ok (.invokestatic 151, 3) := o184 (a := 0) (b := 151) (byt_of hR_rest_b0 (j := 4) rfl) (byt_of hR_rest_b0 (j := 5) rfl) (byt_of hR_rest_b0 (j := 6) rfl) rfl
theorem dR_rest_7 : decode (mcc mR_rest) 7 = .ok (.ifCond .ne 6, 3) := o154 (a := 0) (b := 6) (byt_of hR_rest_b0 (j := 7) rfl) (byt_of hR_rest_b0 (j := 8) rfl) (byt_of hR_rest_b0 (j := 9) rfl) rfl
theorem dR_rest_10 : decode (mcc mR_rest) 10 = .ok (.bipush (-2), 2) := o16 (a := 254) (byt_of hR_rest_b0 (j := 10) rfl) (byt_of hR_rest_b0 (j := 11) rfl) rfl
theorem dR_rest_12 : decode (mcc mR_rest) 12 = .ok (.ireturn, 1) := o172 (byt_of hR_rest_b0 (j := 12) rfl)
theorem dR_rest_13 : decode (mcc mR_rest) 13 = .ok (.iconst 0, 1) := o3 (byt_of hR_rest_b0 (j := 13) rfl)
theorem dR_rest_14 : decode (mcc mR_rest) 14 = .ok (.istore_n 2, 1) := o61 (byt_of hR_rest_b0 (j := 14) rfl)
theorem dR_rest_15 : decode (mcc mR_rest) 15 = .ok (.iconst 0, 1) := o3 (byt_of hR_rest_b0 (j := 15) rfl)
theorem dR_rest_16 : decode (mcc mR_rest) 16 = .ok (.istore_n 3, 1) := o62 (byt_of hR_rest_b0 (j := 16) rfl)
theorem dR_rest_17 : decode (mcc mR_rest) 17 = .ok (.iconst 0, 1) := o3 (byt_of hR_rest_b0 (j := 17) rfl)
theorem dR_rest_18 : decode (mcc mR_rest) 18 = .ok (.istore 4, 2) := o54 (a := 4) (byt_of hR_rest_b0 (j := 18) rfl) (byt_of hR_rest_b0 (j := 19) rfl)
theorem dR_rest_20 : decode (mcc mR_rest) 20 = .ok (.iload_n 2, 1) := o28 (byt_of hR_rest_b0 (j := 20) rfl)
theorem dR_rest_21 : decode (mcc mR_rest) 21 = .ok (.iload_n 1, 1) := o27 (byt_of hR_rest_b0 (j := 21) rfl)
theorem dR_rest_22 : decode (mcc mR_rest) 22 = .ok (.if_icmp .ge 78, 3) := o162 (a := 0) (b := 78) (byt_of hR_rest_b0 (j := 22) rfl) (byt_of hR_rest_b0 (j := 23) rfl) (byt_of hR_rest_b0 (j := 24) rfl) rfl
theorem dR_rest_25 : decode (mcc mR_rest) 25 = .ok (.iload_n 3, 1) := o29 (byt_of hR_rest_b0 (j := 25) rfl)
theorem dR_rest_26 : decode (mcc mR_rest) 26 = .ok (.aload_n 0, 1) := o42 (byt_of hR_rest_b0 (j := 26) rfl)
theorem dR_rest_27 : decode (mcc mR_rest) 27 = .ok (.getfield 148, 3) := o180 (a := 0) (b := 148) (byt_of hR_rest_b0 (j := 27) rfl) (byt_of hR_rest_b0 (j := 28) rfl) (byt_of hR_rest_b0 (j := 29) rfl) rfl
theorem dR_rest_30 : decode (mcc mR_rest) 30 = .ok (.if_icmp .ge 70, 3) := o162 (a := 0) (b := 70) (byt_of hR_rest_b0 (j := 30) rfl) (byt_of hR_rest_b0 (j := 31) rfl) (byt_of hR_rest_b0 (j := 32) rfl) rfl
theorem dR_rest_33 : decode (mcc mR_rest) 33 = .ok (.aload_n 0, 1) := o42 (byt_of hR_rest_b0 (j := 33) rfl)
theorem dR_rest_34 : decode (mcc mR_rest) 34 = .ok (.iload 4, 2) := o21 (a := 4) (byt_of hR_rest_b0 (j := 34) rfl) (byt_of hR_rest_b0 (j := 35) rfl)
theorem dR_rest_36 : decode (mcc mR_rest) 36 = .ok (.iconst 0, 1) := o3 (byt_of hR_rest_b0 (j := 36) rfl)
theorem dR_rest_37 : decode (mcc mR_rest) 37 = .ok (.invokevirtual 335, 3) := o182 (a := 1) (b := 79) (byt_of hR_rest_b0 (j := 37) rfl) (byt_of hR_rest_b0 (j := 38) rfl) (byt_of hR_rest_b0 (j := 39) rfl) rfl
theorem dR_rest_40 : decode (mcc mR_rest) 40 = .ok (.istore 5, 2) := o54 (a := 5) (byt_of hR_rest_b0 (j := 40) rfl) (byt_of hR_rest_b0 (j := 41) rfl)
theorem dR_rest_42 : decode (mcc mR_rest) 42 = .ok (.aload_n 0, 1) := o42 (byt_of hR_rest_b0 (j := 42) rfl)
theorem dR_rest_43 : decode (mcc mR_rest) 43 = .ok (.iload 4, 2) := o21 (a := 4) (byt_of hR_rest_b0 (j := 43) rfl) (byt_of hR_rest_b0 (j := 44) rfl)
theorem dR_rest_45 : decode (mcc mR_rest) 45 = .ok (.iload 5, 2) := o21 (a := 5) (byt_of hR_rest_b0 (j := 45) rfl) (byt_of hR_rest_b0 (j := 46) rfl)
theorem dR_rest_47 : decode (mcc mR_rest) 47 = .ok (.invokevirtual 332, 3) := o182 (a := 1) (b := 76) (byt_of hR_rest_b0 (j := 47) rfl) (byt_of hR_rest_b0 (j := 48) rfl) (byt_of hR_rest_b0 (j := 49) rfl) rfl
theorem dR_rest_50 : decode (mcc mR_rest) 50 = .ok (.aload_n 0, 1) := o42 (byt_of hR_rest_b0 (j := 50) rfl)
theorem dR_rest_51 : decode (mcc mR_rest) 51 = .ok (.iload 4, 2) := o21 (a := 4) (byt_of hR_rest_b0 (j := 51) rfl) (byt_of hR_rest_b0 (j := 52) rfl)
theorem dR_rest_53 : decode (mcc mR_rest) 53 = .ok (.aload_n 0, 1) := o42 (byt_of hR_rest_b0 (j := 53) rfl)
theorem dR_rest_54 : decode (mcc mR_rest) 54 = .ok (.getfield 41, 3) := o180 (a := 0) (b := 41) (byt_of hR_rest_b0 (j := 54) rfl) (byt_of hR_rest_b0 (j := 55) rfl) (byt_of hR_rest_b0 (j := 56) rfl) rfl
theorem dR_rest_57 : decode (mcc mR_rest) 57 = .ok (.iload 4, 2) := o21 (a := 4) (byt_of hR_rest_b0 (j := 57) rfl) (byt_of hR_rest_b0 (j := 58) rfl)
theorem dR_rest_59 : decode (mcc mR_rest) 59 = .ok (.iaload, 1) := o46 (byt_of hR_rest_b0 (j := 59) rfl)
theorem dR_rest_60 : decode (mcc mR_rest) 60 = .ok (.invokevirtual 332, 3) := o182 (a := 1) (b := 76) (byt_of hR_rest_b0 (j := 60) rfl) (byt_of hR_rest_b0 (j := 61) rfl) (byt_of hR_rest_b0 (j := 62) rfl) rfl
theorem dR_rest_63 : decode (mcc mR_rest) 63 = .ok (.if_icmp .ge 20, 3) := o162 (a := 0) (b := 20) (byt_of hR_rest_b0 (j := 63) rfl) (byt_of hR_rest_b0 (j := 64) rfl) (byt_of hR_rest_b0 (j := 65) rfl) rfl
theorem dR_rest_66 : decode (mcc mR_rest) 66 = .ok (.aload_n 0, 1) := o42 (byt_of hR_rest_b0 (j := 66) rfl)
theorem dR_rest_67 : decode (mcc mR_rest) 67 = .ok (.getfield 41, 3) := o180 (a := 0) (b := 41) (byt_of hR_rest_b0 (j := 67) rfl) (byt_of hR_rest_b0 (j := 68) rfl) (byt_of hR_rest_b0 (j := 69) rfl) rfl
theorem dR_rest_70 : decode (mcc mR_rest) 70 = .ok (.iload 4, 2) := o21 (a := 4) (byt_of hR_rest_b0 (j := 70) rfl) (byt_of hR_rest_b0 (j := 71) rfl)
theorem dR_rest_72 : decode (mcc mR_rest) 72 = .ok (.iload 5, 2) := o21 (a := 5) (byt_of hR_rest_b0 (j := 72) rfl) (byt_of hR_rest_b0 (j := 73) rfl)
theorem dR_rest_74 : decode (mcc mR_rest) 74 = .ok (.iastore, 1) := o79 (byt_of hR_rest_b0 (j := 74) rfl)
theorem dR_rest_75 : decode (mcc mR_rest) 75 = .ok (.iinc 2 1, 3) := o132 (a := 2) (b := 1) (byt_of hR_rest_b0 (j := 75) rfl) (byt_of hR_rest_b0 (j := 76) rfl) (byt_of hR_rest_b0 (j := 77) rfl) rfl
theorem dR_rest_78 : decode (mcc mR_rest) 78 = .ok (.iconst 0, 1) := o3 (byt_of hR_rest_b0 (j := 78) rfl)
theorem dR_rest_79 : decode (mcc mR_rest) 79 = .ok (.istore_n 3, 1) := o62 (byt_of hR_rest_b0 (j := 79) rfl)
theorem dR_rest_80 : decode (mcc mR_rest) 80 = .ok (.goto 6, 3) := o167 (a := 0) (b := 6) (byt_of hR_rest_b0 (j := 80) rfl) (byt_of hR_rest_b0 (j := 81) rfl) (byt_of hR_rest_b0 (j := 82) rfl) rfl
theorem dR_rest_83 : decode (mcc mR_rest) 83 = .ok (.iinc 3 1, 3) := o132 (a := 3) (b := 1) (byt_of hR_rest_b0 (j := 83) rfl) (byt_of hR_rest_b0 (j := 84) rfl) (byt_of hR_rest_b0 (j := 85) rfl) rfl
theorem dR_rest_86 : decode (mcc mR_rest) 86 = .ok (.iload 4, 2) := o21 (a := 4) (byt_of hR_rest_b0 (j := 86) rfl) (byt_of hR_rest_b0 (j := 87) rfl)
theorem dR_rest_88 : decode (mcc mR_rest) 88 = .ok (.iconst 1, 1) := o4 (byt_of hR_rest_b0 (j := 88) rfl)
theorem dR_rest_89 : decode (mcc mR_rest) 89 = .ok (.iadd, 1) := o96 (byt_of hR_rest_b0 (j := 89) rfl)
theorem dR_rest_90 : decode (mcc mR_rest) 90 = .ok (.aload_n 0, 1) := o42 (byt_of hR_rest_b0 (j := 90) rfl)
theorem dR_rest_91 : decode (mcc mR_rest) 91 = .ok (.getfield 148, 3) := o180 (a := 0) (b := 148) (byt_of hR_rest_b0 (j := 91) rfl) (byt_of hR_rest_b0 (j := 92) rfl) (byt_of hR_rest_b0 (j := 93) rfl) rfl
theorem dR_rest_94 : decode (mcc mR_rest) 94 = .ok (.irem, 1) := o112 (byt_of hR_rest_b0 (j := 94) rfl)
theorem dR_rest_95 : decode (mcc mR_rest) 95 = .ok (.istore 4, 2) := o54 (a := 4) (byt_of hR_rest_b0 (j := 95) rfl) (byt_of hR_rest_b0 (j := 96) rfl)
def bR_rest_b1 : List Nat := [4, 167, 255, 179, 28, 172]
theorem hR_rest_b1 : BL (mcc mR_rest) 96 bR_rest_b1 := by decide +kernel
theorem dR_rest_97 : decode (mcc mR_rest) 97 = .ok (.goto (-77), 3) := o167 (a := 255) (b := 179) (byt_of hR_rest_b1 (j := 1) rfl) (byt_of hR_rest_b1 (j := 2) rfl) (byt_of hR_rest_b1 (j := 3) rfl) rfl
theorem dR_rest_100 : decode (mcc mR_rest) 100 = .ok (.iload_n 2, 1) := o28 (byt_of hR_rest_b1 (j := 4) rfl)
theorem dR_rest_101 : decode (mcc mR_rest) 101 = .ok (.ireturn, 1) := o172 (byt_of hR_rest_b1 (j := 5) rfl)
def bR_chanceOf_b0 : List Nat := [20, 1, 83, 66, 3, 54, 5, 21, 5, 42, 180, 0, 158, 162, 0, 42, 42, 180, 0, 56, 21, 5, 46, 28, 160, 0, 23, 33, 16, 100, 42, 21, 5, 27, 182, 1, 0, 100, 133, 105, 20, 1, 15, 109, 167, 0, 4, 33, 66, 132, 5, 1, 167, 255, 211, 20, 1, 83, 33, 101, 173]
theorem hR_chanceOf_b0 : BL (mcc mR_chanceOf) 0 bR_chanceOf_b0 := by decide +kernel
theorem dR_chanceOf_0 : decode (mcc mR_chanceOf) 0 = .ok (.ldc2_w 339, 3) := o20 (a := 1) (b := 83) (byt_of hR_chanceOf_b0 (j := 0) rfl) (byt_of hR_chanceOf_b0 (j := 1) rfl) (byt_of hR_chanceOf_b0 (j := 2) rfl) rfl
theorem dR_chanceOf_3 : decode (mcc mR_chanceOf) 3 = .ok (.lstore_n 3, 1) := o66 (byt_of hR_chanceOf_b0 (j := 3) rfl)
theorem dR_chanceOf_4 : decode (mcc mR_chanceOf) 4 = .ok (.iconst 0, 1) := o3 (byt_of hR_chanceOf_b0 (j := 4) rfl)
theorem dR_chanceOf_5 : decode (mcc mR_chanceOf) 5 = .ok (.istore 5, 2) := o54 (a := 5) (byt_of hR_chanceOf_b0 (j := 5) rfl) (byt_of hR_chanceOf_b0 (j := 6) rfl)
theorem dR_chanceOf_7 : decode (mcc mR_chanceOf) 7 = .ok (.iload 5, 2) := o21 (a := 5) (byt_of hR_chanceOf_b0 (j := 7) rfl) (byt_of hR_chanceOf_b0 (j := 8) rfl)
theorem dR_chanceOf_9 : decode (mcc mR_chanceOf) 9 = .ok (.aload_n 0, 1) := o42 (byt_of hR_chanceOf_b0 (j := 9) rfl)
theorem dR_chanceOf_10 : decode (mcc mR_chanceOf) 10 = .ok (.getfield 158, 3) := o180 (a := 0) (b := 158) (byt_of hR_chanceOf_b0 (j := 10) rfl) (byt_of hR_chanceOf_b0 (j := 11) rfl) (byt_of hR_chanceOf_b0 (j := 12) rfl) rfl
theorem dR_chanceOf_13 : decode (mcc mR_chanceOf) 13 = .ok (.if_icmp .ge 42, 3) := o162 (a := 0) (b := 42) (byt_of hR_chanceOf_b0 (j := 13) rfl) (byt_of hR_chanceOf_b0 (j := 14) rfl) (byt_of hR_chanceOf_b0 (j := 15) rfl) rfl
theorem dR_chanceOf_16 : decode (mcc mR_chanceOf) 16 = .ok (.aload_n 0, 1) := o42 (byt_of hR_chanceOf_b0 (j := 16) rfl)
theorem dR_chanceOf_17 : decode (mcc mR_chanceOf) 17 = .ok (.getfield 56, 3) := o180 (a := 0) (b := 56) (byt_of hR_chanceOf_b0 (j := 17) rfl) (byt_of hR_chanceOf_b0 (j := 18) rfl) (byt_of hR_chanceOf_b0 (j := 19) rfl) rfl
theorem dR_chanceOf_20 : decode (mcc mR_chanceOf) 20 = .ok (.iload 5, 2) := o21 (a := 5) (byt_of hR_chanceOf_b0 (j := 20) rfl) (byt_of hR_chanceOf_b0 (j := 21) rfl)
theorem dR_chanceOf_22 : decode (mcc mR_chanceOf) 22 = .ok (.iaload, 1) := o46 (byt_of hR_chanceOf_b0 (j := 22) rfl)
theorem dR_chanceOf_23 : decode (mcc mR_chanceOf) 23 = .ok (.iload_n 2, 1) := o28 (byt_of hR_chanceOf_b0 (j := 23) rfl)
theorem dR_chanceOf_24 : decode (mcc mR_chanceOf) 24 = .ok (.if_icmp .ne 23, 3) := o160 (a := 0) (b := 23) (byt_of hR_chanceOf_b0 (j := 24) rfl) (byt_of hR_chanceOf_b0 (j := 25) rfl) (byt_of hR_chanceOf_b0 (j := 26) rfl) rfl
theorem dR_chanceOf_27 : decode (mcc mR_chanceOf) 27 = .ok (.lload_n 3, 1) := o33 (byt_of hR_chanceOf_b0 (j := 27) rfl)
theorem dR_chanceOf_28 : decode (mcc mR_chanceOf) 28 = .ok (.bipush 100, 2) := o16 (a := 100) (byt_of hR_chanceOf_b0 (j := 28) rfl) (byt_of hR_chanceOf_b0 (j := 29) rfl) rfl
theorem dR_chanceOf_30 : decode (mcc mR_chanceOf) 30 = .ok (.aload_n 0, 1) := o42 (byt_of hR_chanceOf_b0 (j := 30) rfl)
theorem dR_chanceOf_31 : decode (mcc mR_chanceOf) 31 = .ok (.iload 5, 2) := o21 (a := 5) (byt_of hR_chanceOf_b0 (j := 31) rfl) (byt_of hR_chanceOf_b0 (j := 32) rfl)
theorem dR_chanceOf_33 : decode (mcc mR_chanceOf) 33 = .ok (.iload_n 1, 1) := o27 (byt_of hR_chanceOf_b0 (j := 33) rfl)
theorem dR_chanceOf_34 : decode (mcc mR_chanceOf) 34 = .ok (.invokevirtual 256, 3) := o182 (a := 1) (b := 0) (byt_of hR_chanceOf_b0 (j := 34) rfl) (byt_of hR_chanceOf_b0 (j := 35) rfl) (byt_of hR_chanceOf_b0 (j := 36) rfl) rfl
theorem dR_chanceOf_37 : decode (mcc mR_chanceOf) 37 = .ok (.isub, 1) := o100 (byt_of hR_chanceOf_b0 (j := 37) rfl)
theorem dR_chanceOf_38 : decode (mcc mR_chanceOf) 38 = .ok (.i2l, 1) := o133 (byt_of hR_chanceOf_b0 (j := 38) rfl)
theorem dR_chanceOf_39 : decode (mcc mR_chanceOf) 39 = .ok (.lmul, 1) := o105 (byt_of hR_chanceOf_b0 (j := 39) rfl)
theorem dR_chanceOf_40 : decode (mcc mR_chanceOf) 40 = .ok (.ldc2_w 271, 3) := o20 (a := 1) (b := 15) (byt_of hR_chanceOf_b0 (j := 40) rfl) (byt_of hR_chanceOf_b0 (j := 41) rfl) (byt_of hR_chanceOf_b0 (j := 42) rfl) rfl
theorem dR_chanceOf_43 : decode (mcc mR_chanceOf) 43 = .ok (.ldiv, 1) := o109 (byt_of hR_chanceOf_b0 (j := 43) rfl)
theorem dR_chanceOf_44 : decode (mcc mR_chanceOf) 44 = .ok (.goto 4, 3) := o167 (a := 0) (b := 4) (byt_of hR_chanceOf_b0 (j := 44) rfl) (byt_of hR_chanceOf_b0 (j := 45) rfl) (byt_of hR_chanceOf_b0 (j := 46) rfl) rfl
theorem dR_chanceOf_47 : decode (mcc mR_chanceOf) 47 = .ok (.lload_n 3, 1) := o33 (byt_of hR_chanceOf_b0 (j := 47) rfl)
theorem dR_chanceOf_48 : decode (mcc mR_chanceOf) 48 = .ok (.lstore_n 3, 1) := o66 (byt_of hR_chanceOf_b0 (j := 48) rfl)
theorem dR_chanceOf_49 : decode (mcc mR_chanceOf) 49 = .ok (.iinc 5 1, 3) := o132 (a := 5) (b := 1) (byt_of hR_chanceOf_b0 (j := 49) rfl) (byt_of hR_chanceOf_b0 (j := 50) rfl) (byt_of hR_chanceOf_b0 (j := 51) rfl) rfl
theorem dR_chanceOf_52 : decode (mcc mR_chanceOf) 52 = .ok (.goto (-45), 3) := o167 (a := 255) (b := 211) (byt_of hR_chanceOf_b0 (j := 52) rfl) (byt_of hR_chanceOf_b0 (j := 53) rfl) (byt_of hR_chanceOf_b0 (j := 54) rfl) rfl
theorem dR_chanceOf_55 : decode (mcc mR_chanceOf) 55 = .ok (.ldc2_w 339, 3) := o20 (a := 1) (b := 83) (byt_of hR_chanceOf_b0 (j := 55) rfl) (byt_of hR_chanceOf_b0 (j := 56) rfl) (byt_of hR_chanceOf_b0 (j := 57) rfl) rfl
theorem dR_chanceOf_58 : decode (mcc mR_chanceOf) 58 = .ok (.lload_n 3, 1) := o33 (byt_of hR_chanceOf_b0 (j := 58) rfl)
theorem dR_chanceOf_59 : decode (mcc mR_chanceOf) 59 = .ok (.lsub, 1) := o101 (byt_of hR_chanceOf_b0 (j := 59) rfl)
theorem dR_chanceOf_60 : decode (mcc mR_chanceOf) 60 = .ok (.lreturn, 1) := o173 (byt_of hR_chanceOf_b0 (j := 60) rfl)
def bR_chance_b0 : List Nat := [42, 27, 182, 0, 230, 153, 0, 20, 42, 28, 182, 0, 236, 153, 0, 12, 42, 27, 28, 182, 1, 85, 167, 0, 6, 20, 1, 89, 173]
theorem hR_chance_b0 : BL (mcc mR_chance) 0 bR_chance_b0 := by decide +kernel
theorem dR_chance_0 : decode (mcc mR_chance) 0 = .ok (.aload_n 0, 1) := o42 (byt_of hR_chance_b0 (j := 0) rfl)
theorem dR_chance_1 : decode (mcc mR_chance) 1 = .ok (.iload_n 1, 1) := o27 (byt_of hR_chance_b0 (j := 1) rfl)
theorem dR_chance_2 : decode (mcc mR_chance) 2 = .ok (.invokevirtual 230, 3) := o182 (a := 0) (b := 230) (byt_of hR_chance_b0 (j := 2) rfl) (byt_of hR_chance_b0 (j := 3) rfl) (byt_of hR_chance_b0 (j := 4) rfl) rfl
theorem dR_chance_5 : decode (mcc mR_chance) 5 = .ok (.ifCond .eq 20, 3) := o153 (a := 0) (b := 20) (byt_of hR_chance_b0 (j := 5) rfl) (byt_of hR_chance_b0 (j := 6) rfl) (byt_of hR_chance_b0 (j := 7) rfl) rfl
theorem dR_chance_8 : decode (mcc mR_chance) 8 = .ok (.aload_n 0, 1) := o42 (byt_of hR_chance_b0 (j := 8) rfl)
theorem dR_chance_9 : decode (mcc mR_chance) 9 = .ok (.iload_n 2, 1) := o28 (byt_of hR_chance_b0 (j := 9) rfl)
theorem dR_chance_10 : decode (mcc mR_chance) 10 = .ok (.invokevirtual 236, 3) := o182 (a := 0) (b := 236) (byt_of hR_chance_b0 (j := 10) rfl) (byt_of hR_chance_b0 (j := 11) rfl) (byt_of hR_chance_b0 (j := 12) rfl) rfl
theorem dR_chance_13 : decode (mcc mR_chance) 13 = .ok (.ifCond .eq 12, 3) := o153 (a := 0) (b := 12) (byt_of hR_chance_b0 (j := 13) rfl) (byt_of hR_chance_b0 (j := 14) rfl) (byt_of hR_chance_b0 (j := 15) rfl) rfl
theorem dR_chance_16 : decode (mcc mR_chance) 16 = .ok (.aload_n 0, 1) := o42 (byt_of hR_chance_b0 (j := 16) rfl)
theorem dR_chance_17 : decode (mcc mR_chance) 17 = .ok (.iload_n 1, 1) := o27 (byt_of hR_chance_b0 (j := 17) rfl)
theorem dR_chance_18 : decode (mcc mR_chance) 18 = .ok (.iload_n 2, 1) := o28 (byt_of hR_chance_b0 (j := 18) rfl)
theorem dR_chance_19 : decode (mcc mR_chance) 19 = .ok (.invokevirtual 341, 3) := o182 (a := 1) (b := 85) (byt_of hR_chance_b0 (j := 19) rfl) (byt_of hR_chance_b0 (j := 20) rfl) (byt_of hR_chance_b0 (j := 21) rfl) rfl
theorem dR_chance_22 : decode (mcc mR_chance) 22 = .ok (.goto 6, 3) := o167 (a := 0) (b := 6) (byt_of hR_chance_b0 (j := 22) rfl) (byt_of hR_chance_b0 (j := 23) rfl) (byt_of hR_chance_b0 (j := 24) rfl) rfl
theorem dR_chance_25 : decode (mcc mR_chance) 25 = .ok (.ldc2_w 345, 3) := o20 (a := 1) (b := 89) (byt_of hR_chance_b0 (j := 25) rfl) (byt_of hR_chance_b0 (j := 26) rfl) (byt_of hR_chance_b0 (j := 27) rfl) rfl
theorem dR_chance_28 : decode (mcc mR_chance) 28 = .ok (.lreturn, 1) := o173 (byt_of hR_chance_b0 (j := 28) rfl)
def bR_lost_b0 : List Nat := [42, 27, 182, 0, 236, 154, 0, 7, 20, 1, 89, 173, 20, 1, 83, 65, 3, 54, 4, 21, 4, 42, 180, 0, 148, 162, 0, 52, 42, 21, 4, 27, 182, 1, 27, 153, 0, 34, 42, 180, 0, 20, 21, 4, 46, 7, 159, 0, 23, 32, 20, 1, 83, 42, 21, 4, 27, 182, 1, 85, 101, 105, 20, 1, 83, 109, 167, 0, 4, 32, 65, 132, 4, 1, 167, 255, 201, 32, 173]
theorem hR_lost_b0 : BL (mcc mR_lost) 0 bR_lost_b0 := by decide +kernel
theorem dR_lost_0 : decode (mcc mR_lost) 0 = .ok (.aload_n 0, 1) := o42 (byt_of hR_lost_b0 (j := 0) rfl)
theorem dR_lost_1 : decode (mcc mR_lost) 1 = .ok (.iload_n 1, 1) := o27 (byt_of hR_lost_b0 (j := 1) rfl)
theorem dR_lost_2 : decode (mcc mR_lost) 2 = .ok (.invokevirtual 236, 3) := o182 (a := 0) (b := 236) (byt_of hR_lost_b0 (j := 2) rfl) (byt_of hR_lost_b0 (j := 3) rfl) (byt_of hR_lost_b0 (j := 4) rfl) rfl
theorem dR_lost_5 : decode (mcc mR_lost) 5 = .ok (.ifCond .ne 7, 3) := o154 (a := 0) (b := 7) (byt_of hR_lost_b0 (j := 5) rfl) (byt_of hR_lost_b0 (j := 6) rfl) (byt_of hR_lost_b0 (j := 7) rfl) rfl
theorem dR_lost_8 : decode (mcc mR_lost) 8 = .ok (.ldc2_w 345, 3) := o20 (a := 1) (b := 89) (byt_of hR_lost_b0 (j := 8) rfl) (byt_of hR_lost_b0 (j := 9) rfl) (byt_of hR_lost_b0 (j := 10) rfl) rfl
theorem dR_lost_11 : decode (mcc mR_lost) 11 = .ok (.lreturn, 1) := o173 (byt_of hR_lost_b0 (j := 11) rfl)
theorem dR_lost_12 : decode (mcc mR_lost) 12 = .ok (.ldc2_w 339, 3) := o20 (a := 1) (b := 83) (byt_of hR_lost_b0 (j := 12) rfl) (byt_of hR_lost_b0 (j := 13) rfl) (byt_of hR_lost_b0 (j := 14) rfl) rfl
theorem dR_lost_15 : decode (mcc mR_lost) 15 = .ok (.lstore_n 2, 1) := o65 (byt_of hR_lost_b0 (j := 15) rfl)
theorem dR_lost_16 : decode (mcc mR_lost) 16 = .ok (.iconst 0, 1) := o3 (byt_of hR_lost_b0 (j := 16) rfl)
theorem dR_lost_17 : decode (mcc mR_lost) 17 = .ok (.istore 4, 2) := o54 (a := 4) (byt_of hR_lost_b0 (j := 17) rfl) (byt_of hR_lost_b0 (j := 18) rfl)
theorem dR_lost_19 : decode (mcc mR_lost) 19 = .ok (.iload 4, 2) := o21 (a := 4) (byt_of hR_lost_b0 (j := 19) rfl) (byt_of hR_lost_b0 (j := 20) rfl)
theorem dR_lost_21 : decode (mcc mR_lost) 21 = .ok (.aload_n 0, 1) := o42 (byt_of hR_lost_b0 (j := 21) rfl)
theorem dR_lost_22 : decode (mcc mR_lost) 22 = .ok (.getfield 148, 3) := o180 (a := 0) (b := 148) (byt_of hR_lost_b0 (j := 22) rfl) (byt_of hR_lost_b0 (j := 23) rfl) (byt_of hR_lost_b0 (j := 24) rfl) rfl
theorem dR_lost_25 : decode (mcc mR_lost) 25 = .ok (.if_icmp .ge 52, 3) := o162 (a := 0) (b := 52) (byt_of hR_lost_b0 (j := 25) rfl) (byt_of hR_lost_b0 (j := 26) rfl) (byt_of hR_lost_b0 (j := 27) rfl) rfl
theorem dR_lost_28 : decode (mcc mR_lost) 28 = .ok (.aload_n 0, 1) := o42 (byt_of hR_lost_b0 (j := 28) rfl)
theorem dR_lost_29 : decode (mcc mR_lost) 29 = .ok (.iload 4, 2) := o21 (a := 4) (byt_of hR_lost_b0 (j := 29) rfl) (byt_of hR_lost_b0 (j := 30) rfl)
theorem dR_lost_31 : decode (mcc mR_lost) 31 = .ok (.iload_n 1, 1) := o27 (byt_of hR_lost_b0 (j := 31) rfl)
theorem dR_lost_32 : decode (mcc mR_lost) 32 = .ok (.invokevirtual 283, 3) := o182 (a := 1) (b := 27) (byt_of hR_lost_b0 (j := 32) rfl) (byt_of hR_lost_b0 (j := 33) rfl) (byt_of hR_lost_b0 (j := 34) rfl) rfl
theorem dR_lost_35 : decode (mcc mR_lost) 35 = .ok (.ifCond .eq 34, 3) := o153 (a := 0) (b := 34) (byt_of hR_lost_b0 (j := 35) rfl) (byt_of hR_lost_b0 (j := 36) rfl) (byt_of hR_lost_b0 (j := 37) rfl) rfl
theorem dR_lost_38 : decode (mcc mR_lost) 38 = .ok (.aload_n 0, 1) := o42 (byt_of hR_lost_b0 (j := 38) rfl)
theorem dR_lost_39 : decode (mcc mR_lost) 39 = .ok (.getfield 20, 3) := o180 (a := 0) (b := 20) (byt_of hR_lost_b0 (j := 39) rfl) (byt_of hR_lost_b0 (j := 40) rfl) (byt_of hR_lost_b0 (j := 41) rfl) rfl
theorem dR_lost_42 : decode (mcc mR_lost) 42 = .ok (.iload 4, 2) := o21 (a := 4) (byt_of hR_lost_b0 (j := 42) rfl) (byt_of hR_lost_b0 (j := 43) rfl)
theorem dR_lost_44 : decode (mcc mR_lost) 44 = .ok (.iaload, 1) := o46 (byt_of hR_lost_b0 (j := 44) rfl)
theorem dR_lost_45 : decode (mcc mR_lost) 45 = .ok (.iconst 4, 1) := o7 (byt_of hR_lost_b0 (j := 45) rfl)
theorem dR_lost_46 : decode (mcc mR_lost) 46 = .ok (.if_icmp .eq 23, 3) := o159 (a := 0) (b := 23) (byt_of hR_lost_b0 (j := 46) rfl) (byt_of hR_lost_b0 (j := 47) rfl) (byt_of hR_lost_b0 (j := 48) rfl) rfl
theorem dR_lost_49 : decode (mcc mR_lost) 49 = .ok (.lload_n 2, 1) := o32 (byt_of hR_lost_b0 (j := 49) rfl)
theorem dR_lost_50 : decode (mcc mR_lost) 50 = .ok (.ldc2_w 339, 3) := o20 (a := 1) (b := 83) (byt_of hR_lost_b0 (j := 50) rfl) (byt_of hR_lost_b0 (j := 51) rfl) (byt_of hR_lost_b0 (j := 52) rfl) rfl
theorem dR_lost_53 : decode (mcc mR_lost) 53 = .ok (.aload_n 0, 1) := o42 (byt_of hR_lost_b0 (j := 53) rfl)
theorem dR_lost_54 : decode (mcc mR_lost) 54 = .ok (.iload 4, 2) := o21 (a := 4) (byt_of hR_lost_b0 (j := 54) rfl) (byt_of hR_lost_b0 (j := 55) rfl)
theorem dR_lost_56 : decode (mcc mR_lost) 56 = .ok (.iload_n 1, 1) := o27 (byt_of hR_lost_b0 (j := 56) rfl)
theorem dR_lost_57 : decode (mcc mR_lost) 57 = .ok (.invokevirtual 341, 3) := o182 (a := 1) (b := 85) (byt_of hR_lost_b0 (j := 57) rfl) (byt_of hR_lost_b0 (j := 58) rfl) (byt_of hR_lost_b0 (j := 59) rfl) rfl
theorem dR_lost_60 : decode (mcc mR_lost) 60 = .ok (.lsub, 1) := o101 (byt_of hR_lost_b0 (j := 60) rfl)
theorem dR_lost_61 : decode (mcc mR_lost) 61 = .ok (.lmul, 1) := o105 (byt_of hR_lost_b0 (j := 61) rfl)
theorem dR_lost_62 : decode (mcc mR_lost) 62 = .ok (.ldc2_w 339, 3) := o20 (a := 1) (b := 83) (byt_of hR_lost_b0 (j := 62) rfl) (byt_of hR_lost_b0 (j := 63) rfl) (byt_of hR_lost_b0 (j := 64) rfl) rfl
theorem dR_lost_65 : decode (mcc mR_lost) 65 = .ok (.ldiv, 1) := o109 (byt_of hR_lost_b0 (j := 65) rfl)
theorem dR_lost_66 : decode (mcc mR_lost) 66 = .ok (.goto 4, 3) := o167 (a := 0) (b := 4) (byt_of hR_lost_b0 (j := 66) rfl) (byt_of hR_lost_b0 (j := 67) rfl) (byt_of hR_lost_b0 (j := 68) rfl) rfl
theorem dR_lost_69 : decode (mcc mR_lost) 69 = .ok (.lload_n 2, 1) := o32 (byt_of hR_lost_b0 (j := 69) rfl)
theorem dR_lost_70 : decode (mcc mR_lost) 70 = .ok (.lstore_n 2, 1) := o65 (byt_of hR_lost_b0 (j := 70) rfl)
theorem dR_lost_71 : decode (mcc mR_lost) 71 = .ok (.iinc 4 1, 3) := o132 (a := 4) (b := 1) (byt_of hR_lost_b0 (j := 71) rfl) (byt_of hR_lost_b0 (j := 72) rfl) (byt_of hR_lost_b0 (j := 73) rfl) rfl
theorem dR_lost_74 : decode (mcc mR_lost) 74 = .ok (.goto (-55), 3) := o167 (a := 255) (b := 201) (byt_of hR_lost_b0 (j := 74) rfl) (byt_of hR_lost_b0 (j := 75) rfl) (byt_of hR_lost_b0 (j := 76) rfl) rfl
theorem dR_lost_77 : decode (mcc mR_lost) 77 = .ok (.lload_n 2, 1) := o32 (byt_of hR_lost_b0 (j := 77) rfl)
theorem dR_lost_78 : decode (mcc mR_lost) 78 = .ok (.lreturn, 1) := o173 (byt_of hR_lost_b0 (j := 78) rfl)
def bR_laws_b0 : List Nat := [27, 3, 5, 184, 0, 151, 154, 0, 6, 16, 254, 172, 42, 180, 0, 164, 61, 3, 62, 2, 54, 4, 3, 54, 5, 3, 54, 6, 21, 6, 42, 180, 0, 161, 162, 0, 89, 42, 21, 6, 181, 0, 164, 42, 42, 180, 0, 158, 182, 1, 39, 29, 42, 182, 1, 54, 4, 42, 180, 0, 155, 120, 4, 100, 160, 0, 10, 4, 21, 6, 120, 167, 0, 4, 3, 128, 62, 27, 4, 160, 0, 10, 42, 182, 1, 57, 167, 0, 8, 42, 182, 1, 60, 116, 54, 7, 21, 4, 2, 159, 0, 10]
theorem hR_laws_b0 : BL (mcc mR_laws) 0 bR_laws_b0 := by decide +kernel
theorem dR_laws_0 : decode (mcc mR_laws) 0 = .ok (.iload_n 1, 1) := o27 (byt_of hR_laws_b0 (j := 0) rfl)
theorem dR_laws_1 : decode (mcc mR_laws) 1 = .ok (.iconst 0, 1) := o3 (byt_of hR_laws_b0 (j := 1) rfl)
theorem dR_laws_2 : decode (mcc mR_laws) 2 = .ok (.iconst 2, 1) := o5 (byt_of hR_laws_b0 (j := 2) rfl)
theorem dR_laws_3 : decode (mcc mR_laws) 3 = .ok (.invokestatic 151, 3) := o184 (a := 0) (b := 151) (byt_of hR_laws_b0 (j := 3) rfl) (byt_of hR_laws_b0 (j := 4) rfl) (byt_of hR_laws_b0 (j := 5) rfl) rfl
theorem dR_laws_6 : decode (mcc mR_laws) 6 = .ok (.ifCond .ne 6, 3) := o154 (a := 0) (b := 6) (byt_of hR_laws_b0 (j := 6) rfl) (byt_of hR_laws_b0 (j := 7) rfl) (byt_of hR_laws_b0 (j := 8) rfl) rfl
theorem dR_laws_9 : decode (mcc mR_laws) 9 = .ok (.bipush (-2), 2) := o16 (a := 254) (byt_of hR_laws_b0 (j := 9) rfl) (byt_of hR_laws_b0 (j := 10) rfl) rfl
theorem dR_laws_11 : decode (mcc mR_laws) 11 = .ok (.ireturn, 1) := o172 (byt_of hR_laws_b0 (j := 11) rfl)
theorem dR_laws_12 : decode (mcc mR_laws) 12 = .ok (.aload_n 0, 1) := o42 (byt_of hR_laws_b0 (j := 12) rfl)
theorem dR_laws_13 : decode (mcc mR_laws) 13 = .ok (.getfield 164, 3) := o180 (a := 0) (b := 164) (byt_of hR_laws_b0 (j := 13) rfl) (byt_of hR_laws_b0 (j := 14) rfl) (byt_of hR_laws_b0 (j := 15) rfl) rfl
theorem dR_laws_16 : decode (mcc mR_laws) 16 = .ok (.istore_n 2, 1) := o61 (byt_of hR_laws_b0 (j := 16) rfl)
theorem dR_laws_17 : decode (mcc mR_laws) 17 = .ok (.iconst 0, 1) := o3 (byt_of hR_laws_b0 (j := 17) rfl)
theorem dR_laws_18 : decode (mcc mR_laws) 18 = .ok (.istore_n 3, 1) := o62 (byt_of hR_laws_b0 (j := 18) rfl)
theorem dR_laws_19 : decode (mcc mR_laws) 19 = .ok (.iconst (-1), 1) := o2 (byt_of hR_laws_b0 (j := 19) rfl)
theorem dR_laws_20 : decode (mcc mR_laws) 20 = .ok (.istore 4, 2) := o54 (a := 4) (byt_of hR_laws_b0 (j := 20) rfl) (byt_of hR_laws_b0 (j := 21) rfl)
theorem dR_laws_22 : decode (mcc mR_laws) 22 = .ok (.iconst 0, 1) := o3 (byt_of hR_laws_b0 (j := 22) rfl)
theorem dR_laws_23 : decode (mcc mR_laws) 23 = .ok (.istore 5, 2) := o54 (a := 5) (byt_of hR_laws_b0 (j := 23) rfl) (byt_of hR_laws_b0 (j := 24) rfl)
theorem dR_laws_25 : decode (mcc mR_laws) 25 = .ok (.iconst 0, 1) := o3 (byt_of hR_laws_b0 (j := 25) rfl)
theorem dR_laws_26 : decode (mcc mR_laws) 26 = .ok (.istore 6, 2) := o54 (a := 6) (byt_of hR_laws_b0 (j := 26) rfl) (byt_of hR_laws_b0 (j := 27) rfl)
theorem dR_laws_28 : decode (mcc mR_laws) 28 = .ok (.iload 6, 2) := o21 (a := 6) (byt_of hR_laws_b0 (j := 28) rfl) (byt_of hR_laws_b0 (j := 29) rfl)
theorem dR_laws_30 : decode (mcc mR_laws) 30 = .ok (.aload_n 0, 1) := o42 (byt_of hR_laws_b0 (j := 30) rfl)
theorem dR_laws_31 : decode (mcc mR_laws) 31 = .ok (.getfield 161, 3) := o180 (a := 0) (b := 161) (byt_of hR_laws_b0 (j := 31) rfl) (byt_of hR_laws_b0 (j := 32) rfl) (byt_of hR_laws_b0 (j := 33) rfl) rfl
theorem dR_laws_34 : decode (mcc mR_laws) 34 = .ok (.if_icmp .ge 89, 3) := o162 (a := 0) (b := 89) (byt_of hR_laws_b0 (j := 34) rfl) (byt_of hR_laws_b0 (j := 35) rfl) (byt_of hR_laws_b0 (j := 36) rfl) rfl
theorem dR_laws_37 : decode (mcc mR_laws) 37 = .ok (.aload_n 0, 1) := o42 (byt_of hR_laws_b0 (j := 37) rfl)
theorem dR_laws_38 : decode (mcc mR_laws) 38 = .ok (.iload 6, 2) := o21 (a := 6) (byt_of hR_laws_b0 (j := 38) rfl) (byt_of hR_laws_b0 (j := 39) rfl)
theorem dR_laws_40 : decode (mcc mR_laws) 40 = .ok (.putfield 164, 3) := o181 (a := 0) (b := 164) (byt_of hR_laws_b0 (j := 40) rfl) (byt_of hR_laws_b0 (j := 41) rfl) (byt_of hR_laws_b0 (j := 42) rfl) rfl
theorem dR_laws_43 : decode (mcc mR_laws) 43 = .ok (.aload_n 0, 1) := o42 (byt_of hR_laws_b0 (j := 43) rfl)
theorem dR_laws_44 : decode (mcc mR_laws) 44 = .ok (.aload_n 0, 1) := o42 (byt_of hR_laws_b0 (j := 44) rfl)
theorem dR_laws_45 : decode (mcc mR_laws) 45 = .ok (.getfield 158, 3) := o180 (a := 0) (b := 158) (byt_of hR_laws_b0 (j := 45) rfl) (byt_of hR_laws_b0 (j := 46) rfl) (byt_of hR_laws_b0 (j := 47) rfl) rfl
theorem dR_laws_48 : decode (mcc mR_laws) 48 = .ok (.invokevirtual 295, 3) := o182 (a := 1) (b := 39) (byt_of hR_laws_b0 (j := 48) rfl) (byt_of hR_laws_b0 (j := 49) rfl) (byt_of hR_laws_b0 (j := 50) rfl) rfl
theorem dR_laws_51 : decode (mcc mR_laws) 51 = .ok (.iload_n 3, 1) := o29 (byt_of hR_laws_b0 (j := 51) rfl)
theorem dR_laws_52 : decode (mcc mR_laws) 52 = .ok (.aload_n 0, 1) := o42 (byt_of hR_laws_b0 (j := 52) rfl)
theorem dR_laws_53 : decode (mcc mR_laws) 53 = .ok (.invokevirtual 310, 3) := o182 (a := 1) (b := 54) (byt_of hR_laws_b0 (j := 53) rfl) (byt_of hR_laws_b0 (j := 54) rfl) (byt_of hR_laws_b0 (j := 55) rfl) rfl
theorem dR_laws_56 : decode (mcc mR_laws) 56 = .ok (.iconst 1, 1) := o4 (byt_of hR_laws_b0 (j := 56) rfl)
theorem dR_laws_57 : decode (mcc mR_laws) 57 = .ok (.aload_n 0, 1) := o42 (byt_of hR_laws_b0 (j := 57) rfl)
theorem dR_laws_58 : decode (mcc mR_laws) 58 = .ok (.getfield 155, 3) := o180 (a := 0) (b := 155) (byt_of hR_laws_b0 (j := 58) rfl) (byt_of hR_laws_b0 (j := 59) rfl) (byt_of hR_laws_b0 (j := 60) rfl) rfl
theorem dR_laws_61 : decode (mcc mR_laws) 61 = .ok (.ishl, 1) := o120 (byt_of hR_laws_b0 (j := 61) rfl)
theorem dR_laws_62 : decode (mcc mR_laws) 62 = .ok (.iconst 1, 1) := o4 (byt_of hR_laws_b0 (j := 62) rfl)
theorem dR_laws_63 : decode (mcc mR_laws) 63 = .ok (.isub, 1) := o100 (byt_of hR_laws_b0 (j := 63) rfl)
theorem dR_laws_64 : decode (mcc mR_laws) 64 = .ok (.if_icmp .ne 10, 3) := o160 (a := 0) (b := 10) (byt_of hR_laws_b0 (j := 64) rfl) (byt_of hR_laws_b0 (j := 65) rfl) (byt_of hR_laws_b0 (j := 66) rfl) rfl
theorem dR_laws_67 : decode (mcc mR_laws) 67 = .ok (.iconst 1, 1) := o4 (byt_of hR_laws_b0 (j := 67) rfl)
theorem dR_laws_68 : decode (mcc mR_laws) 68 = .ok (.iload 6, 2) := o21 (a := 6) (byt_of hR_laws_b0 (j := 68) rfl) (byt_of hR_laws_b0 (j := 69) rfl)
theorem dR_laws_70 : decode (mcc mR_laws) 70 = .ok (.ishl, 1) := o120 (byt_of hR_laws_b0 (j := 70) rfl)
theorem dR_laws_71 : decode (mcc mR_laws) 71 = .ok (.goto 4, 3) := o167 (a := 0) (b := 4) (byt_of hR_laws_b0 (j := 71) rfl) (byt_of hR_laws_b0 (j := 72) rfl) (byt_of hR_laws_b0 (j := 73) rfl) rfl
theorem dR_laws_74 : decode (mcc mR_laws) 74 = .ok (.iconst 0, 1) := o3 (byt_of hR_laws_b0 (j := 74) rfl)
theorem dR_laws_75 : decode (mcc mR_laws) 75 = .ok (.ior, 1) := o128 (byt_of hR_laws_b0 (j := 75) rfl)
theorem dR_laws_76 : decode (mcc mR_laws) 76 = .ok (.istore_n 3, 1) := o62 (byt_of hR_laws_b0 (j := 76) rfl)
theorem dR_laws_77 : decode (mcc mR_laws) 77 = .ok (.iload_n 1, 1) := o27 (byt_of hR_laws_b0 (j := 77) rfl)
theorem dR_laws_78 : decode (mcc mR_laws) 78 = .ok (.iconst 1, 1) := o4 (byt_of hR_laws_b0 (j := 78) rfl)
theorem dR_laws_79 : decode (mcc mR_laws) 79 = .ok (.if_icmp .ne 10, 3) := o160 (a := 0) (b := 10) (byt_of hR_laws_b0 (j := 79) rfl) (byt_of hR_laws_b0 (j := 80) rfl) (byt_of hR_laws_b0 (j := 81) rfl) rfl
theorem dR_laws_82 : decode (mcc mR_laws) 82 = .ok (.aload_n 0, 1) := o42 (byt_of hR_laws_b0 (j := 82) rfl)
theorem dR_laws_83 : decode (mcc mR_laws) 83 = .ok (.invokevirtual 313, 3) := o182 (a := 1) (b := 57) (byt_of hR_laws_b0 (j := 83) rfl) (byt_of hR_laws_b0 (j := 84) rfl) (byt_of hR_laws_b0 (j := 85) rfl) rfl
theorem dR_laws_86 : decode (mcc mR_laws) 86 = .ok (.goto 8, 3) := o167 (a := 0) (b := 8) (byt_of hR_laws_b0 (j := 86) rfl) (byt_of hR_laws_b0 (j := 87) rfl) (byt_of hR_laws_b0 (j := 88) rfl) rfl
theorem dR_laws_89 : decode (mcc mR_laws) 89 = .ok (.aload_n 0, 1) := o42 (byt_of hR_laws_b0 (j := 89) rfl)
theorem dR_laws_90 : decode (mcc mR_laws) 90 = .ok (.invokevirtual 316, 3) := o182 (a := 1) (b := 60) (byt_of hR_laws_b0 (j := 90) rfl) (byt_of hR_laws_b0 (j := 91) rfl) (byt_of hR_laws_b0 (j := 92) rfl) rfl
theorem dR_laws_93 : decode (mcc mR_laws) 93 = .ok (.ineg, 1) := o116 (byt_of hR_laws_b0 (j := 93) rfl)
theorem dR_laws_94 : decode (mcc mR_laws) 94 = .ok (.istore 7, 2) := o54 (a := 7) (byt_of hR_laws_b0 (j := 94) rfl) (byt_of hR_laws_b0 (j := 95) rfl)
def bR_laws_b1 : List Nat := [21, 4, 2, 159, 0, 10, 21, 7, 21, 5, 164, 0, 11, 21, 6, 54, 4, 21, 7, 54, 5, 132, 6, 1, 167, 255, 164, 42, 28, 181, 0, 164, 27, 154, 0, 7, 29, 167, 0, 5, 21, 4, 172]
theorem hR_laws_b1 : BL (mcc mR_laws) 96 bR_laws_b1 := by decide +kernel
theorem dR_laws_96 : decode (mcc mR_laws) 96 = .ok (.iload 4, 2) := o21 (a := 4) (byt_of hR_laws_b1 (j := 0) rfl) (byt_of hR_laws_b1 (j := 1) rfl)
theorem dR_laws_98 : decode (mcc mR_laws) 98 = .ok (.iconst (-1), 1) := o2 (byt_of hR_laws_b1 (j := 2) rfl)
theorem dR_laws_99 : decode (mcc mR_laws) 99 = .ok (.if_icmp .eq 10, 3) := o159 (a := 0) (b := 10) (byt_of hR_laws_b1 (j := 3) rfl) (byt_of hR_laws_b1 (j := 4) rfl) (byt_of hR_laws_b1 (j := 5) rfl) rfl
theorem dR_laws_102 : decode (mcc mR_laws) 102 = .ok (.iload 7, 2) := o21 (a := 7) (byt_of hR_laws_b1 (j := 6) rfl) (byt_of hR_laws_b1 (j := 7) rfl)
theorem dR_laws_104 : decode (mcc mR_laws) 104 = .ok (.iload 5, 2) := o21 (a := 5) (byt_of hR_laws_b1 (j := 8) rfl) (byt_of hR_laws_b1 (j := 9) rfl)
theorem dR_laws_106 : decode (mcc mR_laws) 106 = .ok (.if_icmp .le 11, 3) := o164 (a := 0) (b := 11) (byt_of hR_laws_b1 (j := 10) rfl) (byt_of hR_laws_b1 (j := 11) rfl) (byt_of hR_laws_b1 (j := 12) rfl) rfl
theorem dR_laws_109 : decode (mcc mR_laws) 109 = .ok (.iload 6, 2) := o21 (a := 6) (byt_of hR_laws_b1 (j := 13) rfl) (byt_of hR_laws_b1 (j := 14) rfl)
theorem dR_laws_111 : decode (mcc mR_laws) 111 = .ok (.istore 4, 2) := o54 (a := 4) (byt_of hR_laws_b1 (j := 15) rfl) (byt_of hR_laws_b1 (j := 16) rfl)
theorem dR_laws_113 : decode (mcc mR_laws) 113 = .ok (.iload 7, 2) := o21 (a := 7) (byt_of hR_laws_b1 (j := 17) rfl) (byt_of hR_laws_b1 (j := 18) rfl)
theorem dR_laws_115 : decode (mcc mR_laws) 115 = .ok (.istore 5, 2) := o54 (a := 5) (byt_of hR_laws_b1 (j := 19) rfl) (byt_of hR_laws_b1 (j := 20) rfl)
theorem dR_laws_117 : decode (mcc mR_laws) 117 = .ok (.iinc 6 1, 3) := o132 (a := 6) (b := 1) (byt_of hR_laws_b1 (j := 21) rfl) (byt_of hR_laws_b1 (j := 22) rfl) (byt_of hR_laws_b1 (j := 23) rfl) rfl
theorem dR_laws_120 : decode (mcc mR_laws) 120 = .ok (.goto (-92), 3) := o167 (a := 255) (b := 164) (byt_of hR_laws_b1 (j := 24) rfl) (byt_of hR_laws_b1 (j := 25) rfl) (byt_of hR_laws_b1 (j := 26) rfl) rfl
theorem dR_laws_123 : decode (mcc mR_laws) 123 = .ok (.aload_n 0, 1) := o42 (byt_of hR_laws_b1 (j := 27) rfl)
theorem dR_laws_124 : decode (mcc mR_laws) 124 = .ok (.iload_n 2, 1) := o28 (byt_of hR_laws_b1 (j := 28) rfl)
theorem dR_laws_125 : decode (mcc mR_laws) 125 = .ok (.putfield 164, 3) := o181 (a := 0) (b := 164) (byt_of hR_laws_b1 (j := 29) rfl) (byt_of hR_laws_b1 (j := 30) rfl) (byt_of hR_laws_b1 (j := 31) rfl) rfl
theorem dR_laws_128 : decode (mcc mR_laws) 128 = .ok (.iload_n 1, 1) := o27 (byt_of hR_laws_b1 (j := 32) rfl)
theorem dR_laws_129 : decode (mcc mR_laws) 129 = .ok (.ifCond .ne 7, 3) := o154 (a := 0) (b := 7) (byt_of hR_laws_b1 (j := 33) rfl) (byt_of hR_laws_b1 (j := 34) rfl) (byt_of hR_laws_b1 (j := 35) rfl) rfl
theorem dR_laws_132 : decode (mcc mR_laws) 132 = .ok (.iload_n 3, 1) := o29 (byt_of hR_laws_b1 (j := 36) rfl)
theorem dR_laws_133 : decode (mcc mR_laws) 133 = .ok (.goto 5, 3) := o167 (a := 0) (b := 5) (byt_of hR_laws_b1 (j := 37) rfl) (byt_of hR_laws_b1 (j := 38) rfl) (byt_of hR_laws_b1 (j := 39) rfl) rfl
theorem dR_laws_136 : decode (mcc mR_laws) 136 = .ok (.iload 4, 2) := o21 (a := 4) (byt_of hR_laws_b1 (j := 40) rfl) (byt_of hR_laws_b1 (j := 41) rfl)
theorem dR_laws_138 : decode (mcc mR_laws) 138 = .ok (.ireturn, 1) := o172 (byt_of hR_laws_b1 (j := 42) rfl)
def bR_sheetWrong_b0 : List Nat := [27, 3, 6, 184, 0, 151, 154, 0, 6, 16, 254, 172, 42, 180, 0, 98, 27, 46, 2, 160, 0, 6, 16, 245, 172, 42, 180, 0, 101, 27, 46, 42, 180, 0, 158, 160, 0, 7, 3, 167, 0, 5, 16, 254, 172]
theorem hR_sheetWrong_b0 : BL (mcc mR_sheetWrong) 0 bR_sheetWrong_b0 := by decide +kernel
theorem dR_sheetWrong_0 : decode (mcc mR_sheetWrong) 0 = .ok (.iload_n 1, 1) := o27 (byt_of hR_sheetWrong_b0 (j := 0) rfl)
theorem dR_sheetWrong_1 : decode (mcc mR_sheetWrong) 1 = .ok (.iconst 0, 1) := o3 (byt_of hR_sheetWrong_b0 (j := 1) rfl)
theorem dR_sheetWrong_2 : decode (mcc mR_sheetWrong) 2 = .ok (.iconst 3, 1) := o6 (byt_of hR_sheetWrong_b0 (j := 2) rfl)
theorem dR_sheetWrong_3 : decode (mcc mR_sheetWrong) 3 = .ok (.invokestatic 151, 3) := o184 (a := 0) (b := 151) (byt_of hR_sheetWrong_b0 (j := 3) rfl) (byt_of hR_sheetWrong_b0 (j := 4) rfl) (byt_of hR_sheetWrong_b0 (j := 5) rfl) rfl
theorem dR_sheetWrong_6 : decode (mcc mR_sheetWrong) 6 = .ok (.ifCond .ne 6, 3) := o154 (a := 0) (b := 6) (byt_of hR_sheetWrong_b0 (j := 6) rfl) (byt_of hR_sheetWrong_b0 (j := 7) rfl) (byt_of hR_sheetWrong_b0 (j := 8) rfl) rfl
theorem dR_sheetWrong_9 : decode (mcc mR_sheetWrong) 9 = .ok (.bipush (-2), 2) := o16 (a := 254) (byt_of hR_sheetWrong_b0 (j := 9) rfl) (byt_of hR_sheetWrong_b0 (j := 10) rfl) rfl
theorem dR_sheetWrong_11 : decode (mcc mR_sheetWrong) 11 = .ok (.ireturn, 1) := o172 (byt_of hR_sheetWrong_b0 (j := 11) rfl)
theorem dR_sheetWrong_12 : decode (mcc mR_sheetWrong) 12 = .ok (.aload_n 0, 1) := o42 (byt_of hR_sheetWrong_b0 (j := 12) rfl)
theorem dR_sheetWrong_13 : decode (mcc mR_sheetWrong) 13 = .ok (.getfield 98, 3) := o180 (a := 0) (b := 98) (byt_of hR_sheetWrong_b0 (j := 13) rfl) (byt_of hR_sheetWrong_b0 (j := 14) rfl) (byt_of hR_sheetWrong_b0 (j := 15) rfl) rfl
theorem dR_sheetWrong_16 : decode (mcc mR_sheetWrong) 16 = .ok (.iload_n 1, 1) := o27 (byt_of hR_sheetWrong_b0 (j := 16) rfl)
theorem dR_sheetWrong_17 : decode (mcc mR_sheetWrong) 17 = .ok (.iaload, 1) := o46 (byt_of hR_sheetWrong_b0 (j := 17) rfl)
theorem dR_sheetWrong_18 : decode (mcc mR_sheetWrong) 18 = .ok (.iconst (-1), 1) := o2 (byt_of hR_sheetWrong_b0 (j := 18) rfl)
theorem dR_sheetWrong_19 : decode (mcc mR_sheetWrong) 19 = .ok (.if_icmp .ne 6, 3) := o160 (a := 0) (b := 6) (byt_of hR_sheetWrong_b0 (j := 19) rfl) (byt_of hR_sheetWrong_b0 (j := 20) rfl) (byt_of hR_sheetWrong_b0 (j := 21) rfl) rfl
theorem dR_sheetWrong_22 : decode (mcc mR_sheetWrong) 22 = .ok (.bipush (-11), 2) := o16 (a := 245) (byt_of hR_sheetWrong_b0 (j := 22) rfl) (byt_of hR_sheetWrong_b0 (j := 23) rfl) rfl
theorem dR_sheetWrong_24 : decode (mcc mR_sheetWrong) 24 = .ok (.ireturn, 1) := o172 (byt_of hR_sheetWrong_b0 (j := 24) rfl)
theorem dR_sheetWrong_25 : decode (mcc mR_sheetWrong) 25 = .ok (.aload_n 0, 1) := o42 (byt_of hR_sheetWrong_b0 (j := 25) rfl)
theorem dR_sheetWrong_26 : decode (mcc mR_sheetWrong) 26 = .ok (.getfield 101, 3) := o180 (a := 0) (b := 101) (byt_of hR_sheetWrong_b0 (j := 26) rfl) (byt_of hR_sheetWrong_b0 (j := 27) rfl) (byt_of hR_sheetWrong_b0 (j := 28) rfl) rfl
theorem dR_sheetWrong_29 : decode (mcc mR_sheetWrong) 29 = .ok (.iload_n 1, 1) := o27 (byt_of hR_sheetWrong_b0 (j := 29) rfl)
theorem dR_sheetWrong_30 : decode (mcc mR_sheetWrong) 30 = .ok (.iaload, 1) := o46 (byt_of hR_sheetWrong_b0 (j := 30) rfl)
theorem dR_sheetWrong_31 : decode (mcc mR_sheetWrong) 31 = .ok (.aload_n 0, 1) := o42 (byt_of hR_sheetWrong_b0 (j := 31) rfl)
theorem dR_sheetWrong_32 : decode (mcc mR_sheetWrong) 32 = .ok (.getfield 158, 3) := o180 (a := 0) (b := 158) (byt_of hR_sheetWrong_b0 (j := 32) rfl) (byt_of hR_sheetWrong_b0 (j := 33) rfl) (byt_of hR_sheetWrong_b0 (j := 34) rfl) rfl
theorem dR_sheetWrong_35 : decode (mcc mR_sheetWrong) 35 = .ok (.if_icmp .ne 7, 3) := o160 (a := 0) (b := 7) (byt_of hR_sheetWrong_b0 (j := 35) rfl) (byt_of hR_sheetWrong_b0 (j := 36) rfl) (byt_of hR_sheetWrong_b0 (j := 37) rfl) rfl
theorem dR_sheetWrong_38 : decode (mcc mR_sheetWrong) 38 = .ok (.iconst 0, 1) := o3 (byt_of hR_sheetWrong_b0 (j := 38) rfl)
theorem dR_sheetWrong_39 : decode (mcc mR_sheetWrong) 39 = .ok (.goto 5, 3) := o167 (a := 0) (b := 5) (byt_of hR_sheetWrong_b0 (j := 39) rfl) (byt_of hR_sheetWrong_b0 (j := 40) rfl) (byt_of hR_sheetWrong_b0 (j := 41) rfl) rfl
theorem dR_sheetWrong_42 : decode (mcc mR_sheetWrong) 42 = .ok (.bipush (-2), 2) := o16 (a := 254) (byt_of hR_sheetWrong_b0 (j := 42) rfl) (byt_of hR_sheetWrong_b0 (j := 43) rfl) rfl
theorem dR_sheetWrong_44 : decode (mcc mR_sheetWrong) 44 = .ok (.ireturn, 1) := o172 (byt_of hR_sheetWrong_b0 (j := 44) rfl)
def bR_unlike_b0 : List Nat := [3, 61, 28, 42, 180, 0, 158, 162, 0, 30, 42, 180, 0, 104, 16, 40, 27, 104, 28, 96, 46, 42, 28, 182, 1, 21, 159, 0, 5, 28, 172, 132, 2, 1, 167, 255, 224, 2, 172]
theorem hR_unlike_b0 : BL (mcc mR_unlike) 0 bR_unlike_b0 := by decide +kernel
theorem dR_unlike_0 : decode (mcc mR_unlike) 0 = .ok (.iconst 0, 1) := o3 (byt_of hR_unlike_b0 (j := 0) rfl)
theorem dR_unlike_1 : decode (mcc mR_unlike) 1 = .ok (.istore_n 2, 1) := o61 (byt_of hR_unlike_b0 (j := 1) rfl)
theorem dR_unlike_2 : decode (mcc mR_unlike) 2 = .ok (.iload_n 2, 1) := o28 (byt_of hR_unlike_b0 (j := 2) rfl)
theorem dR_unlike_3 : decode (mcc mR_unlike) 3 = .ok (.aload_n 0, 1) := o42 (byt_of hR_unlike_b0 (j := 3) rfl)
theorem dR_unlike_4 : decode (mcc mR_unlike) 4 = .ok (.getfield 158, 3) := o180 (a := 0) (b := 158) (byt_of hR_unlike_b0 (j := 4) rfl) (byt_of hR_unlike_b0 (j := 5) rfl) (byt_of hR_unlike_b0 (j := 6) rfl) rfl
theorem dR_unlike_7 : decode (mcc mR_unlike) 7 = .ok (.if_icmp .ge 30, 3) := o162 (a := 0) (b := 30) (byt_of hR_unlike_b0 (j := 7) rfl) (byt_of hR_unlike_b0 (j := 8) rfl) (byt_of hR_unlike_b0 (j := 9) rfl) rfl
theorem dR_unlike_10 : decode (mcc mR_unlike) 10 = .ok (.aload_n 0, 1) := o42 (byt_of hR_unlike_b0 (j := 10) rfl)
theorem dR_unlike_11 : decode (mcc mR_unlike) 11 = .ok (.getfield 104, 3) := o180 (a := 0) (b := 104) (byt_of hR_unlike_b0 (j := 11) rfl) (byt_of hR_unlike_b0 (j := 12) rfl) (byt_of hR_unlike_b0 (j := 13) rfl) rfl
theorem dR_unlike_14 : decode (mcc mR_unlike) 14 = .ok (.bipush 40, 2) := o16 (a := 40) (byt_of hR_unlike_b0 (j := 14) rfl) (byt_of hR_unlike_b0 (j := 15) rfl) rfl
theorem dR_unlike_16 : decode (mcc mR_unlike) 16 = .ok (.iload_n 1, 1) := o27 (byt_of hR_unlike_b0 (j := 16) rfl)
theorem dR_unlike_17 : decode (mcc mR_unlike) 17 = .ok (.imul, 1) := o104 (byt_of hR_unlike_b0 (j := 17) rfl)
theorem dR_unlike_18 : decode (mcc mR_unlike) 18 = .ok (.iload_n 2, 1) := o28 (byt_of hR_unlike_b0 (j := 18) rfl)
theorem dR_unlike_19 : decode (mcc mR_unlike) 19 = .ok (.iadd, 1) := o96 (byt_of hR_unlike_b0 (j := 19) rfl)
theorem dR_unlike_20 : decode (mcc mR_unlike) 20 = .ok (.iaload, 1) := o46 (byt_of hR_unlike_b0 (j := 20) rfl)
theorem dR_unlike_21 : decode (mcc mR_unlike) 21 = .ok (.aload_n 0, 1) := o42 (byt_of hR_unlike_b0 (j := 21) rfl)
theorem dR_unlike_22 : decode (mcc mR_unlike) 22 = .ok (.iload_n 2, 1) := o28 (byt_of hR_unlike_b0 (j := 22) rfl)
theorem dR_unlike_23 : decode (mcc mR_unlike) 23 = .ok (.invokevirtual 277, 3) := o182 (a := 1) (b := 21) (byt_of hR_unlike_b0 (j := 23) rfl) (byt_of hR_unlike_b0 (j := 24) rfl) (byt_of hR_unlike_b0 (j := 25) rfl) rfl
theorem dR_unlike_26 : decode (mcc mR_unlike) 26 = .ok (.if_icmp .eq 5, 3) := o159 (a := 0) (b := 5) (byt_of hR_unlike_b0 (j := 26) rfl) (byt_of hR_unlike_b0 (j := 27) rfl) (byt_of hR_unlike_b0 (j := 28) rfl) rfl
theorem dR_unlike_29 : decode (mcc mR_unlike) 29 = .ok (.iload_n 2, 1) := o28 (byt_of hR_unlike_b0 (j := 29) rfl)
theorem dR_unlike_30 : decode (mcc mR_unlike) 30 = .ok (.ireturn, 1) := o172 (byt_of hR_unlike_b0 (j := 30) rfl)
theorem dR_unlike_31 : decode (mcc mR_unlike) 31 = .ok (.iinc 2 1, 3) := o132 (a := 2) (b := 1) (byt_of hR_unlike_b0 (j := 31) rfl) (byt_of hR_unlike_b0 (j := 32) rfl) (byt_of hR_unlike_b0 (j := 33) rfl) rfl
theorem dR_unlike_34 : decode (mcc mR_unlike) 34 = .ok (.goto (-32), 3) := o167 (a := 255) (b := 224) (byt_of hR_unlike_b0 (j := 34) rfl) (byt_of hR_unlike_b0 (j := 35) rfl) (byt_of hR_unlike_b0 (j := 36) rfl) rfl
theorem dR_unlike_37 : decode (mcc mR_unlike) 37 = .ok (.iconst (-1), 1) := o2 (byt_of hR_unlike_b0 (j := 37) rfl)
theorem dR_unlike_38 : decode (mcc mR_unlike) 38 = .ok (.ireturn, 1) := o172 (byt_of hR_unlike_b0 (j := 38) rfl)
def bR_witness_b0 : List Nat := [42, 27, 182, 1, 91, 61, 28, 154, 0, 11, 42, 27, 182, 1, 94, 167, 0, 4, 28, 172]
theorem hR_witness_b0 : BL (mcc mR_witness) 0 bR_witness_b0 := by decide +kernel
theorem dR_witness_0 : decode (mcc mR_witness) 0 = .ok (.aload_n 0, 1) := o42 (byt_of hR_witness_b0 (j := 0) rfl)
theorem dR_witness_1 : decode (mcc mR_witness) 1 = .ok (.iload_n 1, 1) := o27 (byt_of hR_witness_b0 (j := 1) rfl)
theorem dR_witness_2 : decode (mcc mR_witness) 2 = .ok (.invokevirtual 347, 3) := o182 (a := 1) (b := 91) (byt_of hR_witness_b0 (j := 2) rfl) (byt_of hR_witness_b0 (j := 3) rfl) (byt_of hR_witness_b0 (j := 4) rfl) rfl
theorem dR_witness_5 : decode (mcc mR_witness) 5 = .ok (.istore_n 2, 1) := o61 (byt_of hR_witness_b0 (j := 5) rfl)
theorem dR_witness_6 : decode (mcc mR_witness) 6 = .ok (.iload_n 2, 1) := o28 (byt_of hR_witness_b0 (j := 6) rfl)
theorem dR_witness_7 : decode (mcc mR_witness) 7 = .ok (.ifCond .ne 11, 3) := o154 (a := 0) (b := 11) (byt_of hR_witness_b0 (j := 7) rfl) (byt_of hR_witness_b0 (j := 8) rfl) (byt_of hR_witness_b0 (j := 9) rfl) rfl
theorem dR_witness_10 : decode (mcc mR_witness) 10 = .ok (.aload_n 0, 1) := o42 (byt_of hR_witness_b0 (j := 10) rfl)
theorem dR_witness_11 : decode (mcc mR_witness) 11 = .ok (.iload_n 1, 1) := o27 (byt_of hR_witness_b0 (j := 11) rfl)
theorem dR_witness_12 : decode (mcc mR_witness) 12 = .ok (.invokevirtual 350, 3) := o182 (a := 1) (b := 94) (byt_of hR_witness_b0 (j := 12) rfl) (byt_of hR_witness_b0 (j := 13) rfl) (byt_of hR_witness_b0 (j := 14) rfl) rfl
theorem dR_witness_15 : decode (mcc mR_witness) 15 = .ok (.goto 4, 3) := o167 (a := 0) (b := 4) (byt_of hR_witness_b0 (j := 15) rfl) (byt_of hR_witness_b0 (j := 16) rfl) (byt_of hR_witness_b0 (j := 17) rfl) rfl
theorem dR_witness_18 : decode (mcc mR_witness) 18 = .ok (.iload_n 2, 1) := o28 (byt_of hR_witness_b0 (j := 18) rfl)
theorem dR_witness_19 : decode (mcc mR_witness) 19 = .ok (.ireturn, 1) := o172 (byt_of hR_witness_b0 (j := 19) rfl)
def bR_alibi_b0 : List Nat := [42, 27, 182, 0, 230, 154, 0, 6, 16, 251, 172, 42, 28, 182, 1, 91, 62, 29, 153, 0, 5, 29, 172, 42, 180, 0, 41, 27, 46, 54, 4, 3, 54, 5, 3, 54, 6, 21, 6, 8, 163, 0, 39, 42, 180, 0, 41, 27, 21, 6, 79, 21, 5, 42, 28, 182, 1, 94, 2, 160, 0, 10, 4, 21, 6, 120, 167, 0, 4, 3, 128, 54, 5, 132, 6, 1, 167, 255, 217, 42, 180, 0, 41, 27, 21, 4, 79, 21, 5, 172]
theorem hR_alibi_b0 : BL (mcc mR_alibi) 0 bR_alibi_b0 := by decide +kernel
theorem dR_alibi_0 : decode (mcc mR_alibi) 0 = .ok (.aload_n 0, 1) := o42 (byt_of hR_alibi_b0 (j := 0) rfl)
theorem dR_alibi_1 : decode (mcc mR_alibi) 1 = .ok (.iload_n 1, 1) := o27 (byt_of hR_alibi_b0 (j := 1) rfl)
theorem dR_alibi_2 : decode (mcc mR_alibi) 2 = .ok (.invokevirtual 230, 3) := o182 (a := 0) (b := 230) (byt_of hR_alibi_b0 (j := 2) rfl) (byt_of hR_alibi_b0 (j := 3) rfl) (byt_of hR_alibi_b0 (j := 4) rfl) rfl
theorem dR_alibi_5 : decode (mcc mR_alibi) 5 = .ok (.ifCond .ne 6, 3) := o154 (a := 0) (b := 6) (byt_of hR_alibi_b0 (j := 5) rfl) (byt_of hR_alibi_b0 (j := 6) rfl) (byt_of hR_alibi_b0 (j := 7) rfl) rfl
theorem dR_alibi_8 : decode (mcc mR_alibi) 8 = .ok (.bipush (-5), 2) := o16 (a := 251) (byt_of hR_alibi_b0 (j := 8) rfl) (byt_of hR_alibi_b0 (j := 9) rfl) rfl
theorem dR_alibi_10 : decode (mcc mR_alibi) 10 = .ok (.ireturn, 1) := o172 (byt_of hR_alibi_b0 (j := 10) rfl)
theorem dR_alibi_11 : decode (mcc mR_alibi) 11 = .ok (.aload_n 0, 1) := o42 (byt_of hR_alibi_b0 (j := 11) rfl)
theorem dR_alibi_12 : decode (mcc mR_alibi) 12 = .ok (.iload_n 2, 1) := o28 (byt_of hR_alibi_b0 (j := 12) rfl)
theorem dR_alibi_13 : decode (mcc mR_alibi) 13 = .ok (.invokevirtual 347, 3) := o182 (a := 1) (b := 91) (byt_of hR_alibi_b0 (j := 13) rfl) (byt_of hR_alibi_b0 (j := 14) rfl) (byt_of hR_alibi_b0 (j := 15) rfl) rfl
theorem dR_alibi_16 : decode (mcc mR_alibi) 16 = .ok (.istore_n 3, 1) := o62 (byt_of hR_alibi_b0 (j := 16) rfl)
theorem dR_alibi_17 : decode (mcc mR_alibi) 17 = .ok (.iload_n 3, 1) := o29 (byt_of hR_alibi_b0 (j := 17) rfl)
theorem dR_alibi_18 : decode (mcc mR_alibi) 18 = .ok (.ifCond .eq 5, 3) := o153 (a := 0) (b := 5) (byt_of hR_alibi_b0 (j := 18) rfl) (byt_of hR_alibi_b0 (j := 19) rfl) (byt_of hR_alibi_b0 (j := 20) rfl) rfl
theorem dR_alibi_21 : decode (mcc mR_alibi) 21 = .ok (.iload_n 3, 1) := o29 (byt_of hR_alibi_b0 (j := 21) rfl)
theorem dR_alibi_22 : decode (mcc mR_alibi) 22 = .ok (.ireturn, 1) := o172 (byt_of hR_alibi_b0 (j := 22) rfl)
theorem dR_alibi_23 : decode (mcc mR_alibi) 23 = .ok (.aload_n 0, 1) := o42 (byt_of hR_alibi_b0 (j := 23) rfl)
theorem dR_alibi_24 : decode (mcc mR_alibi) 24 = .ok (.getfield 41, 3) := o180 (a := 0) (b := 41) (byt_of hR_alibi_b0 (j := 24) rfl) (byt_of hR_alibi_b0 (j := 25) rfl) (byt_of hR_alibi_b0 (j := 26) rfl) rfl
theorem dR_alibi_27 : decode (mcc mR_alibi) 27 = .ok (.iload_n 1, 1) := o27 (byt_of hR_alibi_b0 (j := 27) rfl)
theorem dR_alibi_28 : decode (mcc mR_alibi) 28 = .ok (.iaload, 1) := o46 (byt_of hR_alibi_b0 (j := 28) rfl)
theorem dR_alibi_29 : decode (mcc mR_alibi) 29 = .ok (.istore 4, 2) := o54 (a := 4) (byt_of hR_alibi_b0 (j := 29) rfl) (byt_of hR_alibi_b0 (j := 30) rfl)
theorem dR_alibi_31 : decode (mcc mR_alibi) 31 = .ok (.iconst 0, 1) := o3 (byt_of hR_alibi_b0 (j := 31) rfl)
theorem dR_alibi_32 : decode (mcc mR_alibi) 32 = .ok (.istore 5, 2) := o54 (a := 5) (byt_of hR_alibi_b0 (j := 32) rfl) (byt_of hR_alibi_b0 (j := 33) rfl)
theorem dR_alibi_34 : decode (mcc mR_alibi) 34 = .ok (.iconst 0, 1) := o3 (byt_of hR_alibi_b0 (j := 34) rfl)
theorem dR_alibi_35 : decode (mcc mR_alibi) 35 = .ok (.istore 6, 2) := o54 (a := 6) (byt_of hR_alibi_b0 (j := 35) rfl) (byt_of hR_alibi_b0 (j := 36) rfl)
theorem dR_alibi_37 : decode (mcc mR_alibi) 37 = .ok (.iload 6, 2) := o21 (a := 6) (byt_of hR_alibi_b0 (j := 37) rfl) (byt_of hR_alibi_b0 (j := 38) rfl)
theorem dR_alibi_39 : decode (mcc mR_alibi) 39 = .ok (.iconst 5, 1) := o8 (byt_of hR_alibi_b0 (j := 39) rfl)
theorem dR_alibi_40 : decode (mcc mR_alibi) 40 = .ok (.if_icmp .gt 39, 3) := o163 (a := 0) (b := 39) (byt_of hR_alibi_b0 (j := 40) rfl) (byt_of hR_alibi_b0 (j := 41) rfl) (byt_of hR_alibi_b0 (j := 42) rfl) rfl
theorem dR_alibi_43 : decode (mcc mR_alibi) 43 = .ok (.aload_n 0, 1) := o42 (byt_of hR_alibi_b0 (j := 43) rfl)
theorem dR_alibi_44 : decode (mcc mR_alibi) 44 = .ok (.getfield 41, 3) := o180 (a := 0) (b := 41) (byt_of hR_alibi_b0 (j := 44) rfl) (byt_of hR_alibi_b0 (j := 45) rfl) (byt_of hR_alibi_b0 (j := 46) rfl) rfl
theorem dR_alibi_47 : decode (mcc mR_alibi) 47 = .ok (.iload_n 1, 1) := o27 (byt_of hR_alibi_b0 (j := 47) rfl)
theorem dR_alibi_48 : decode (mcc mR_alibi) 48 = .ok (.iload 6, 2) := o21 (a := 6) (byt_of hR_alibi_b0 (j := 48) rfl) (byt_of hR_alibi_b0 (j := 49) rfl)
theorem dR_alibi_50 : decode (mcc mR_alibi) 50 = .ok (.iastore, 1) := o79 (byt_of hR_alibi_b0 (j := 50) rfl)
theorem dR_alibi_51 : decode (mcc mR_alibi) 51 = .ok (.iload 5, 2) := o21 (a := 5) (byt_of hR_alibi_b0 (j := 51) rfl) (byt_of hR_alibi_b0 (j := 52) rfl)
theorem dR_alibi_53 : decode (mcc mR_alibi) 53 = .ok (.aload_n 0, 1) := o42 (byt_of hR_alibi_b0 (j := 53) rfl)
theorem dR_alibi_54 : decode (mcc mR_alibi) 54 = .ok (.iload_n 2, 1) := o28 (byt_of hR_alibi_b0 (j := 54) rfl)
theorem dR_alibi_55 : decode (mcc mR_alibi) 55 = .ok (.invokevirtual 350, 3) := o182 (a := 1) (b := 94) (byt_of hR_alibi_b0 (j := 55) rfl) (byt_of hR_alibi_b0 (j := 56) rfl) (byt_of hR_alibi_b0 (j := 57) rfl) rfl
theorem dR_alibi_58 : decode (mcc mR_alibi) 58 = .ok (.iconst (-1), 1) := o2 (byt_of hR_alibi_b0 (j := 58) rfl)
theorem dR_alibi_59 : decode (mcc mR_alibi) 59 = .ok (.if_icmp .ne 10, 3) := o160 (a := 0) (b := 10) (byt_of hR_alibi_b0 (j := 59) rfl) (byt_of hR_alibi_b0 (j := 60) rfl) (byt_of hR_alibi_b0 (j := 61) rfl) rfl
theorem dR_alibi_62 : decode (mcc mR_alibi) 62 = .ok (.iconst 1, 1) := o4 (byt_of hR_alibi_b0 (j := 62) rfl)
theorem dR_alibi_63 : decode (mcc mR_alibi) 63 = .ok (.iload 6, 2) := o21 (a := 6) (byt_of hR_alibi_b0 (j := 63) rfl) (byt_of hR_alibi_b0 (j := 64) rfl)
theorem dR_alibi_65 : decode (mcc mR_alibi) 65 = .ok (.ishl, 1) := o120 (byt_of hR_alibi_b0 (j := 65) rfl)
theorem dR_alibi_66 : decode (mcc mR_alibi) 66 = .ok (.goto 4, 3) := o167 (a := 0) (b := 4) (byt_of hR_alibi_b0 (j := 66) rfl) (byt_of hR_alibi_b0 (j := 67) rfl) (byt_of hR_alibi_b0 (j := 68) rfl) rfl
theorem dR_alibi_69 : decode (mcc mR_alibi) 69 = .ok (.iconst 0, 1) := o3 (byt_of hR_alibi_b0 (j := 69) rfl)
theorem dR_alibi_70 : decode (mcc mR_alibi) 70 = .ok (.ior, 1) := o128 (byt_of hR_alibi_b0 (j := 70) rfl)
theorem dR_alibi_71 : decode (mcc mR_alibi) 71 = .ok (.istore 5, 2) := o54 (a := 5) (byt_of hR_alibi_b0 (j := 71) rfl) (byt_of hR_alibi_b0 (j := 72) rfl)
theorem dR_alibi_73 : decode (mcc mR_alibi) 73 = .ok (.iinc 6 1, 3) := o132 (a := 6) (b := 1) (byt_of hR_alibi_b0 (j := 73) rfl) (byt_of hR_alibi_b0 (j := 74) rfl) (byt_of hR_alibi_b0 (j := 75) rfl) rfl
theorem dR_alibi_76 : decode (mcc mR_alibi) 76 = .ok (.goto (-39), 3) := o167 (a := 255) (b := 217) (byt_of hR_alibi_b0 (j := 76) rfl) (byt_of hR_alibi_b0 (j := 77) rfl) (byt_of hR_alibi_b0 (j := 78) rfl) rfl
theorem dR_alibi_79 : decode (mcc mR_alibi) 79 = .ok (.aload_n 0, 1) := o42 (byt_of hR_alibi_b0 (j := 79) rfl)
theorem dR_alibi_80 : decode (mcc mR_alibi) 80 = .ok (.getfield 41, 3) := o180 (a := 0) (b := 41) (byt_of hR_alibi_b0 (j := 80) rfl) (byt_of hR_alibi_b0 (j := 81) rfl) (byt_of hR_alibi_b0 (j := 82) rfl) rfl
theorem dR_alibi_83 : decode (mcc mR_alibi) 83 = .ok (.iload_n 1, 1) := o27 (byt_of hR_alibi_b0 (j := 83) rfl)
theorem dR_alibi_84 : decode (mcc mR_alibi) 84 = .ok (.iload 4, 2) := o21 (a := 4) (byt_of hR_alibi_b0 (j := 84) rfl) (byt_of hR_alibi_b0 (j := 85) rfl)
theorem dR_alibi_86 : decode (mcc mR_alibi) 86 = .ok (.iastore, 1) := o79 (byt_of hR_alibi_b0 (j := 86) rfl)
theorem dR_alibi_87 : decode (mcc mR_alibi) 87 = .ok (.iload 5, 2) := o21 (a := 5) (byt_of hR_alibi_b0 (j := 87) rfl) (byt_of hR_alibi_b0 (j := 88) rfl)
theorem dR_alibi_89 : decode (mcc mR_alibi) 89 = .ok (.ireturn, 1) := o172 (byt_of hR_alibi_b0 (j := 89) rfl)
def bR_draws_b0 : List Nat := [42, 27, 133, 10, 97, 181, 1, 7, 42, 4, 181, 1, 3, 42, 42, 180, 0, 158, 182, 1, 39, 42, 3, 181, 1, 3, 177]
theorem hR_draws_b0 : BL (mcc mR_draws) 0 bR_draws_b0 := by decide +kernel
theorem dR_draws_0 : decode (mcc mR_draws) 0 = .ok (.aload_n 0, 1) := o42 (byt_of hR_draws_b0 (j := 0) rfl)
theorem dR_draws_1 : decode (mcc mR_draws) 1 = .ok (.iload_n 1, 1) := o27 (byt_of hR_draws_b0 (j := 1) rfl)
theorem dR_draws_2 : decode (mcc mR_draws) 2 = .ok (.i2l, 1) := o133 (byt_of hR_draws_b0 (j := 2) rfl)
theorem dR_draws_3 : decode (mcc mR_draws) 3 = .ok (.lconst 1, 1) := o10 (byt_of hR_draws_b0 (j := 3) rfl)
theorem dR_draws_4 : decode (mcc mR_draws) 4 = .ok (.ladd, 1) := o97 (byt_of hR_draws_b0 (j := 4) rfl)
theorem dR_draws_5 : decode (mcc mR_draws) 5 = .ok (.putfield 263, 3) := o181 (a := 1) (b := 7) (byt_of hR_draws_b0 (j := 5) rfl) (byt_of hR_draws_b0 (j := 6) rfl) (byt_of hR_draws_b0 (j := 7) rfl) rfl
theorem dR_draws_8 : decode (mcc mR_draws) 8 = .ok (.aload_n 0, 1) := o42 (byt_of hR_draws_b0 (j := 8) rfl)
theorem dR_draws_9 : decode (mcc mR_draws) 9 = .ok (.iconst 1, 1) := o4 (byt_of hR_draws_b0 (j := 9) rfl)
theorem dR_draws_10 : decode (mcc mR_draws) 10 = .ok (.putfield 259, 3) := o181 (a := 1) (b := 3) (byt_of hR_draws_b0 (j := 10) rfl) (byt_of hR_draws_b0 (j := 11) rfl) (byt_of hR_draws_b0 (j := 12) rfl) rfl
theorem dR_draws_13 : decode (mcc mR_draws) 13 = .ok (.aload_n 0, 1) := o42 (byt_of hR_draws_b0 (j := 13) rfl)
theorem dR_draws_14 : decode (mcc mR_draws) 14 = .ok (.aload_n 0, 1) := o42 (byt_of hR_draws_b0 (j := 14) rfl)
theorem dR_draws_15 : decode (mcc mR_draws) 15 = .ok (.getfield 158, 3) := o180 (a := 0) (b := 158) (byt_of hR_draws_b0 (j := 15) rfl) (byt_of hR_draws_b0 (j := 16) rfl) (byt_of hR_draws_b0 (j := 17) rfl) rfl
theorem dR_draws_18 : decode (mcc mR_draws) 18 = .ok (.invokevirtual 295, 3) := o182 (a := 1) (b := 39) (byt_of hR_draws_b0 (j := 18) rfl) (byt_of hR_draws_b0 (j := 19) rfl) (byt_of hR_draws_b0 (j := 20) rfl) rfl
theorem dR_draws_21 : decode (mcc mR_draws) 21 = .ok (.aload_n 0, 1) := o42 (byt_of hR_draws_b0 (j := 21) rfl)
theorem dR_draws_22 : decode (mcc mR_draws) 22 = .ok (.iconst 0, 1) := o3 (byt_of hR_draws_b0 (j := 22) rfl)
theorem dR_draws_23 : decode (mcc mR_draws) 23 = .ok (.putfield 259, 3) := o181 (a := 1) (b := 3) (byt_of hR_draws_b0 (j := 23) rfl) (byt_of hR_draws_b0 (j := 24) rfl) (byt_of hR_draws_b0 (j := 25) rfl) rfl
theorem dR_draws_26 : decode (mcc mR_draws) 26 = .ok (.return_, 1) := o177 (byt_of hR_draws_b0 (j := 26) rfl)
def bR_drawn_b0 : List Nat := [27, 3, 19, 1, 97, 184, 0, 151, 153, 0, 12, 28, 3, 5, 184, 0, 151, 154, 0, 6, 16, 254, 172, 42, 27, 182, 1, 98, 28, 154, 0, 10, 42, 182, 1, 54, 167, 0, 19, 28, 4, 160, 0, 10, 42, 182, 1, 57, 167, 0, 7, 42, 182, 1, 60, 172]
theorem hR_drawn_b0 : BL (mcc mR_drawn) 0 bR_drawn_b0 := by decide +kernel
theorem dR_drawn_0 : decode (mcc mR_drawn) 0 = .ok (.iload_n 1, 1) := o27 (byt_of hR_drawn_b0 (j := 0) rfl)
theorem dR_drawn_1 : decode (mcc mR_drawn) 1 = .ok (.iconst 0, 1) := o3 (byt_of hR_drawn_b0 (j := 1) rfl)
theorem dR_drawn_2 : decode (mcc mR_drawn) 2 = .ok (.ldc_w 353, 3) := o19 (a := 1) (b := 97) (byt_of hR_drawn_b0 (j := 2) rfl) (byt_of hR_drawn_b0 (j := 3) rfl) (byt_of hR_drawn_b0 (j := 4) rfl) rfl
theorem dR_drawn_5 : decode (mcc mR_drawn) 5 = .ok (.invokestatic 151, 3) := o184 (a := 0) (b := 151) (byt_of hR_drawn_b0 (j := 5) rfl) (byt_of hR_drawn_b0 (j := 6) rfl) (byt_of hR_drawn_b0 (j := 7) rfl) rfl
theorem dR_drawn_8 : decode (mcc mR_drawn) 8 = .ok (.ifCond .eq 12, 3) := o153 (a := 0) (b := 12) (byt_of hR_drawn_b0 (j := 8) rfl) (byt_of hR_drawn_b0 (j := 9) rfl) (byt_of hR_drawn_b0 (j := 10) rfl) rfl
theorem dR_drawn_11 : decode (mcc mR_drawn) 11 = .ok (.iload_n 2, 1) := o28 (byt_of hR_drawn_b0 (j := 11) rfl)
theorem dR_drawn_12 : decode (mcc mR_drawn) 12 = .ok (.iconst 0, 1) := o3 (byt_of hR_drawn_b0 (j := 12) rfl)
theorem dR_drawn_13 : decode (mcc mR_drawn) 13 = .ok (.iconst 2, 1) := o5 (byt_of hR_drawn_b0 (j := 13) rfl)
theorem dR_drawn_14 : decode (mcc mR_drawn) 14 = .ok (.invokestatic 151, 3) := o184 (a := 0) (b := 151) (byt_of hR_drawn_b0 (j := 14) rfl) (byt_of hR_drawn_b0 (j := 15) rfl) (byt_of hR_drawn_b0 (j := 16) rfl) rfl
theorem dR_drawn_17 : decode (mcc mR_drawn) 17 = .ok (.ifCond .ne 6, 3) := o154 (a := 0) (b := 6) (byt_of hR_drawn_b0 (j := 17) rfl) (byt_of hR_drawn_b0 (j := 18) rfl) (byt_of hR_drawn_b0 (j := 19) rfl) rfl
theorem dR_drawn_20 : decode (mcc mR_drawn) 20 = .ok (.bipush (-2), 2) := o16 (a := 254) (byt_of hR_drawn_b0 (j := 20) rfl) (byt_of hR_drawn_b0 (j := 21) rfl) rfl
theorem dR_drawn_22 : decode (mcc mR_drawn) 22 = .ok (.ireturn, 1) := o172 (byt_of hR_drawn_b0 (j := 22) rfl)
theorem dR_drawn_23 : decode (mcc mR_drawn) 23 = .ok (.aload_n 0, 1) := o42 (byt_of hR_drawn_b0 (j := 23) rfl)
theorem dR_drawn_24 : decode (mcc mR_drawn) 24 = .ok (.iload_n 1, 1) := o27 (byt_of hR_drawn_b0 (j := 24) rfl)
theorem dR_drawn_25 : decode (mcc mR_drawn) 25 = .ok (.invokevirtual 354, 3) := o182 (a := 1) (b := 98) (byt_of hR_drawn_b0 (j := 25) rfl) (byt_of hR_drawn_b0 (j := 26) rfl) (byt_of hR_drawn_b0 (j := 27) rfl) rfl
theorem dR_drawn_28 : decode (mcc mR_drawn) 28 = .ok (.iload_n 2, 1) := o28 (byt_of hR_drawn_b0 (j := 28) rfl)
theorem dR_drawn_29 : decode (mcc mR_drawn) 29 = .ok (.ifCond .ne 10, 3) := o154 (a := 0) (b := 10) (byt_of hR_drawn_b0 (j := 29) rfl) (byt_of hR_drawn_b0 (j := 30) rfl) (byt_of hR_drawn_b0 (j := 31) rfl) rfl
theorem dR_drawn_32 : decode (mcc mR_drawn) 32 = .ok (.aload_n 0, 1) := o42 (byt_of hR_drawn_b0 (j := 32) rfl)
theorem dR_drawn_33 : decode (mcc mR_drawn) 33 = .ok (.invokevirtual 310, 3) := o182 (a := 1) (b := 54) (byt_of hR_drawn_b0 (j := 33) rfl) (byt_of hR_drawn_b0 (j := 34) rfl) (byt_of hR_drawn_b0 (j := 35) rfl) rfl
theorem dR_drawn_36 : decode (mcc mR_drawn) 36 = .ok (.goto 19, 3) := o167 (a := 0) (b := 19) (byt_of hR_drawn_b0 (j := 36) rfl) (byt_of hR_drawn_b0 (j := 37) rfl) (byt_of hR_drawn_b0 (j := 38) rfl) rfl
theorem dR_drawn_39 : decode (mcc mR_drawn) 39 = .ok (.iload_n 2, 1) := o28 (byt_of hR_drawn_b0 (j := 39) rfl)
theorem dR_drawn_40 : decode (mcc mR_drawn) 40 = .ok (.iconst 1, 1) := o4 (byt_of hR_drawn_b0 (j := 40) rfl)
theorem dR_drawn_41 : decode (mcc mR_drawn) 41 = .ok (.if_icmp .ne 10, 3) := o160 (a := 0) (b := 10) (byt_of hR_drawn_b0 (j := 41) rfl) (byt_of hR_drawn_b0 (j := 42) rfl) (byt_of hR_drawn_b0 (j := 43) rfl) rfl
theorem dR_drawn_44 : decode (mcc mR_drawn) 44 = .ok (.aload_n 0, 1) := o42 (byt_of hR_drawn_b0 (j := 44) rfl)
theorem dR_drawn_45 : decode (mcc mR_drawn) 45 = .ok (.invokevirtual 313, 3) := o182 (a := 1) (b := 57) (byt_of hR_drawn_b0 (j := 45) rfl) (byt_of hR_drawn_b0 (j := 46) rfl) (byt_of hR_drawn_b0 (j := 47) rfl) rfl
theorem dR_drawn_48 : decode (mcc mR_drawn) 48 = .ok (.goto 7, 3) := o167 (a := 0) (b := 7) (byt_of hR_drawn_b0 (j := 48) rfl) (byt_of hR_drawn_b0 (j := 49) rfl) (byt_of hR_drawn_b0 (j := 50) rfl) rfl
theorem dR_drawn_51 : decode (mcc mR_drawn) 51 = .ok (.aload_n 0, 1) := o42 (byt_of hR_drawn_b0 (j := 51) rfl)
theorem dR_drawn_52 : decode (mcc mR_drawn) 52 = .ok (.invokevirtual 316, 3) := o182 (a := 1) (b := 60) (byt_of hR_drawn_b0 (j := 52) rfl) (byt_of hR_drawn_b0 (j := 53) rfl) (byt_of hR_drawn_b0 (j := 54) rfl) rfl
theorem dR_drawn_55 : decode (mcc mR_drawn) 55 = .ok (.ireturn, 1) := o172 (byt_of hR_drawn_b0 (j := 55) rfl)
def bR_lowest_b0 : List Nat := [30, 9, 148, 154, 0, 7, 21, 4, 133, 173, 30, 55, 5, 32, 55, 7, 22, 7, 9, 148, 153, 0, 21, 22, 5, 22, 7, 113, 55, 9, 22, 7, 55, 5, 22, 9, 55, 7, 167, 255, 234, 21, 4, 154, 0, 7, 30, 167, 0, 4, 32, 22, 5, 109, 173]
theorem hR_lowest_b0 : BL (mcc mR_lowest) 0 bR_lowest_b0 := by decide +kernel
theorem dR_lowest_0 : decode (mcc mR_lowest) 0 = .ok (.lload_n 0, 1) := o30 (byt_of hR_lowest_b0 (j := 0) rfl)
theorem dR_lowest_1 : decode (mcc mR_lowest) 1 = .ok (.lconst 0, 1) := o9 (byt_of hR_lowest_b0 (j := 1) rfl)
theorem dR_lowest_2 : decode (mcc mR_lowest) 2 = .ok (.lcmp, 1) := o148 (byt_of hR_lowest_b0 (j := 2) rfl)
theorem dR_lowest_3 : decode (mcc mR_lowest) 3 = .ok (.ifCond .ne 7, 3) := o154 (a := 0) (b := 7) (byt_of hR_lowest_b0 (j := 3) rfl) (byt_of hR_lowest_b0 (j := 4) rfl) (byt_of hR_lowest_b0 (j := 5) rfl) rfl
theorem dR_lowest_6 : decode (mcc mR_lowest) 6 = .ok (.iload 4, 2) := o21 (a := 4) (byt_of hR_lowest_b0 (j := 6) rfl) (byt_of hR_lowest_b0 (j := 7) rfl)
theorem dR_lowest_8 : decode (mcc mR_lowest) 8 = .ok (.i2l, 1) := o133 (byt_of hR_lowest_b0 (j := 8) rfl)
theorem dR_lowest_9 : decode (mcc mR_lowest) 9 = .ok (.lreturn, 1) := o173 (byt_of hR_lowest_b0 (j := 9) rfl)
theorem dR_lowest_10 : decode (mcc mR_lowest) 10 = .ok (.lload_n 0, 1) := o30 (byt_of hR_lowest_b0 (j := 10) rfl)
theorem dR_lowest_11 : decode (mcc mR_lowest) 11 = .ok (.lstore 5, 2) := o55 (a := 5) (byt_of hR_lowest_b0 (j := 11) rfl) (byt_of hR_lowest_b0 (j := 12) rfl)
theorem dR_lowest_13 : decode (mcc mR_lowest) 13 = .ok (.lload_n 2, 1) := o32 (byt_of hR_lowest_b0 (j := 13) rfl)
theorem dR_lowest_14 : decode (mcc mR_lowest) 14 = .ok (.lstore 7, 2) := o55 (a := 7) (byt_of hR_lowest_b0 (j := 14) rfl) (byt_of hR_lowest_b0 (j := 15) rfl)
theorem dR_lowest_16 : decode (mcc mR_lowest) 16 = .ok (.lload 7, 2) := o22 (a := 7) (byt_of hR_lowest_b0 (j := 16) rfl) (byt_of hR_lowest_b0 (j := 17) rfl)
theorem dR_lowest_18 : decode (mcc mR_lowest) 18 = .ok (.lconst 0, 1) := o9 (byt_of hR_lowest_b0 (j := 18) rfl)
theorem dR_lowest_19 : decode (mcc mR_lowest) 19 = .ok (.lcmp, 1) := o148 (byt_of hR_lowest_b0 (j := 19) rfl)
theorem dR_lowest_20 : decode (mcc mR_lowest) 20 = .ok (.ifCond .eq 21, 3) := o153 (a := 0) (b := 21) (byt_of hR_lowest_b0 (j := 20) rfl) (byt_of hR_lowest_b0 (j := 21) rfl) (byt_of hR_lowest_b0 (j := 22) rfl) rfl
theorem dR_lowest_23 : decode (mcc mR_lowest) 23 = .ok (.lload 5, 2) := o22 (a := 5) (byt_of hR_lowest_b0 (j := 23) rfl) (byt_of hR_lowest_b0 (j := 24) rfl)
theorem dR_lowest_25 : decode (mcc mR_lowest) 25 = .ok (.lload 7, 2) := o22 (a := 7) (byt_of hR_lowest_b0 (j := 25) rfl) (byt_of hR_lowest_b0 (j := 26) rfl)
theorem dR_lowest_27 : decode (mcc mR_lowest) 27 = .ok (.lrem, 1) := o113 (byt_of hR_lowest_b0 (j := 27) rfl)
theorem dR_lowest_28 : decode (mcc mR_lowest) 28 = .ok (.lstore 9, 2) := o55 (a := 9) (byt_of hR_lowest_b0 (j := 28) rfl) (byt_of hR_lowest_b0 (j := 29) rfl)
theorem dR_lowest_30 : decode (mcc mR_lowest) 30 = .ok (.lload 7, 2) := o22 (a := 7) (byt_of hR_lowest_b0 (j := 30) rfl) (byt_of hR_lowest_b0 (j := 31) rfl)
theorem dR_lowest_32 : decode (mcc mR_lowest) 32 = .ok (.lstore 5, 2) := o55 (a := 5) (byt_of hR_lowest_b0 (j := 32) rfl) (byt_of hR_lowest_b0 (j := 33) rfl)
theorem dR_lowest_34 : decode (mcc mR_lowest) 34 = .ok (.lload 9, 2) := o22 (a := 9) (byt_of hR_lowest_b0 (j := 34) rfl) (byt_of hR_lowest_b0 (j := 35) rfl)
theorem dR_lowest_36 : decode (mcc mR_lowest) 36 = .ok (.lstore 7, 2) := o55 (a := 7) (byt_of hR_lowest_b0 (j := 36) rfl) (byt_of hR_lowest_b0 (j := 37) rfl)
theorem dR_lowest_38 : decode (mcc mR_lowest) 38 = .ok (.goto (-22), 3) := o167 (a := 255) (b := 234) (byt_of hR_lowest_b0 (j := 38) rfl) (byt_of hR_lowest_b0 (j := 39) rfl) (byt_of hR_lowest_b0 (j := 40) rfl) rfl
theorem dR_lowest_41 : decode (mcc mR_lowest) 41 = .ok (.iload 4, 2) := o21 (a := 4) (byt_of hR_lowest_b0 (j := 41) rfl) (byt_of hR_lowest_b0 (j := 42) rfl)
theorem dR_lowest_43 : decode (mcc mR_lowest) 43 = .ok (.ifCond .ne 7, 3) := o154 (a := 0) (b := 7) (byt_of hR_lowest_b0 (j := 43) rfl) (byt_of hR_lowest_b0 (j := 44) rfl) (byt_of hR_lowest_b0 (j := 45) rfl) rfl
theorem dR_lowest_46 : decode (mcc mR_lowest) 46 = .ok (.lload_n 0, 1) := o30 (byt_of hR_lowest_b0 (j := 46) rfl)
theorem dR_lowest_47 : decode (mcc mR_lowest) 47 = .ok (.goto 4, 3) := o167 (a := 0) (b := 4) (byt_of hR_lowest_b0 (j := 47) rfl) (byt_of hR_lowest_b0 (j := 48) rfl) (byt_of hR_lowest_b0 (j := 49) rfl) rfl
theorem dR_lowest_50 : decode (mcc mR_lowest) 50 = .ok (.lload_n 2, 1) := o32 (byt_of hR_lowest_b0 (j := 50) rfl)
theorem dR_lowest_51 : decode (mcc mR_lowest) 51 = .ok (.lload 5, 2) := o22 (a := 5) (byt_of hR_lowest_b0 (j := 51) rfl) (byt_of hR_lowest_b0 (j := 52) rfl)
theorem dR_lowest_53 : decode (mcc mR_lowest) 53 = .ok (.ldiv, 1) := o109 (byt_of hR_lowest_b0 (j := 53) rfl)
theorem dR_lowest_54 : decode (mcc mR_lowest) 54 = .ok (.lreturn, 1) := o173 (byt_of hR_lowest_b0 (j := 54) rfl)
def bR_odds_b0 : List Nat := [42, 27, 182, 0, 236, 153, 0, 38, 28, 3, 19, 1, 97, 184, 0, 151, 153, 0, 27, 29, 4, 16, 20, 184, 0, 151, 153, 0, 17, 21, 4, 3, 4, 184, 0, 151, 153, 0, 7, 4, 167, 0, 4, 3, 54, 5, 21, 5, 154, 0, 7, 20, 1, 89, 173, 9, 55, 6, 3, 54, 8, 21, 8, 29, 162, 0, 51, 42, 28, 21, 8, 96, 19, 1, 97, 164, 0, 9, 19, 1, 97, 167, 0, 7, 28, 21, 8, 96, 182, 1, 98, 22, 6, 42, 27, 182, 1, 51, 153, 0, 7, 10]
theorem hR_odds_b0 : BL (mcc mR_odds) 0 bR_odds_b0 := by decide +kernel
theorem dR_odds_0 : decode (mcc mR_odds) 0 = .ok (.aload_n 0, 1) := o42 (byt_of hR_odds_b0 (j := 0) rfl)
theorem dR_odds_1 : decode (mcc mR_odds) 1 = .ok (.iload_n 1, 1) := o27 (byt_of hR_odds_b0 (j := 1) rfl)
theorem dR_odds_2 : decode (mcc mR_odds) 2 = .ok (.invokevirtual 236, 3) := o182 (a := 0) (b := 236) (byt_of hR_odds_b0 (j := 2) rfl) (byt_of hR_odds_b0 (j := 3) rfl) (byt_of hR_odds_b0 (j := 4) rfl) rfl
theorem dR_odds_5 : decode (mcc mR_odds) 5 = .ok (.ifCond .eq 38, 3) := o153 (a := 0) (b := 38) (byt_of hR_odds_b0 (j := 5) rfl) (byt_of hR_odds_b0 (j := 6) rfl) (byt_of hR_odds_b0 (j := 7) rfl) rfl
theorem dR_odds_8 : decode (mcc mR_odds) 8 = .ok (.iload_n 2, 1) := o28 (byt_of hR_odds_b0 (j := 8) rfl)
theorem dR_odds_9 : decode (mcc mR_odds) 9 = .ok (.iconst 0, 1) := o3 (byt_of hR_odds_b0 (j := 9) rfl)
theorem dR_odds_10 : decode (mcc mR_odds) 10 = .ok (.ldc_w 353, 3) := o19 (a := 1) (b := 97) (byt_of hR_odds_b0 (j := 10) rfl) (byt_of hR_odds_b0 (j := 11) rfl) (byt_of hR_odds_b0 (j := 12) rfl) rfl
theorem dR_odds_13 : decode (mcc mR_odds) 13 = .ok (.invokestatic 151, 3) := o184 (a := 0) (b := 151) (byt_of hR_odds_b0 (j := 13) rfl) (byt_of hR_odds_b0 (j := 14) rfl) (byt_of hR_odds_b0 (j := 15) rfl) rfl
theorem dR_odds_16 : decode (mcc mR_odds) 16 = .ok (.ifCond .eq 27, 3) := o153 (a := 0) (b := 27) (byt_of hR_odds_b0 (j := 16) rfl) (byt_of hR_odds_b0 (j := 17) rfl) (byt_of hR_odds_b0 (j := 18) rfl) rfl
theorem dR_odds_19 : decode (mcc mR_odds) 19 = .ok (.iload_n 3, 1) := o29 (byt_of hR_odds_b0 (j := 19) rfl)
theorem dR_odds_20 : decode (mcc mR_odds) 20 = .ok (.iconst 1, 1) := o4 (byt_of hR_odds_b0 (j := 20) rfl)
theorem dR_odds_21 : decode (mcc mR_odds) 21 = .ok (.bipush 20, 2) := o16 (a := 20) (byt_of hR_odds_b0 (j := 21) rfl) (byt_of hR_odds_b0 (j := 22) rfl) rfl
theorem dR_odds_23 : decode (mcc mR_odds) 23 = .ok (.invokestatic 151, 3) := o184 (a := 0) (b := 151) (byt_of hR_odds_b0 (j := 23) rfl) (byt_of hR_odds_b0 (j := 24) rfl) (byt_of hR_odds_b0 (j := 25) rfl) rfl
theorem dR_odds_26 : decode (mcc mR_odds) 26 = .ok (.ifCond .eq 17, 3) := o153 (a := 0) (b := 17) (byt_of hR_odds_b0 (j := 26) rfl) (byt_of hR_odds_b0 (j := 27) rfl) (byt_of hR_odds_b0 (j := 28) rfl) rfl
theorem dR_odds_29 : decode (mcc mR_odds) 29 = .ok (.iload 4, 2) := o21 (a := 4) (byt_of hR_odds_b0 (j := 29) rfl) (byt_of hR_odds_b0 (j := 30) rfl)
theorem dR_odds_31 : decode (mcc mR_odds) 31 = .ok (.iconst 0, 1) := o3 (byt_of hR_odds_b0 (j := 31) rfl)
theorem dR_odds_32 : decode (mcc mR_odds) 32 = .ok (.iconst 1, 1) := o4 (byt_of hR_odds_b0 (j := 32) rfl)
theorem dR_odds_33 : decode (mcc mR_odds) 33 = .ok (.invokestatic 151, 3) := o184 (a := 0) (b := 151) (byt_of hR_odds_b0 (j := 33) rfl) (byt_of hR_odds_b0 (j := 34) rfl) (byt_of hR_odds_b0 (j := 35) rfl) rfl
theorem dR_odds_36 : decode (mcc mR_odds) 36 = .ok (.ifCond .eq 7, 3) := o153 (a := 0) (b := 7) (byt_of hR_odds_b0 (j := 36) rfl) (byt_of hR_odds_b0 (j := 37) rfl) (byt_of hR_odds_b0 (j := 38) rfl) rfl
theorem dR_odds_39 : decode (mcc mR_odds) 39 = .ok (.iconst 1, 1) := o4 (byt_of hR_odds_b0 (j := 39) rfl)
theorem dR_odds_40 : decode (mcc mR_odds) 40 = .ok (.goto 4, 3) := o167 (a := 0) (b := 4) (byt_of hR_odds_b0 (j := 40) rfl) (byt_of hR_odds_b0 (j := 41) rfl) (byt_of hR_odds_b0 (j := 42) rfl) rfl
theorem dR_odds_43 : decode (mcc mR_odds) 43 = .ok (.iconst 0, 1) := o3 (byt_of hR_odds_b0 (j := 43) rfl)
theorem dR_odds_44 : decode (mcc mR_odds) 44 = .ok (.istore 5, 2) := o54 (a := 5) (byt_of hR_odds_b0 (j := 44) rfl) (byt_of hR_odds_b0 (j := 45) rfl)
theorem dR_odds_46 : decode (mcc mR_odds) 46 = .ok (.iload 5, 2) := o21 (a := 5) (byt_of hR_odds_b0 (j := 46) rfl) (byt_of hR_odds_b0 (j := 47) rfl)
theorem dR_odds_48 : decode (mcc mR_odds) 48 = .ok (.ifCond .ne 7, 3) := o154 (a := 0) (b := 7) (byt_of hR_odds_b0 (j := 48) rfl) (byt_of hR_odds_b0 (j := 49) rfl) (byt_of hR_odds_b0 (j := 50) rfl) rfl
theorem dR_odds_51 : decode (mcc mR_odds) 51 = .ok (.ldc2_w 345, 3) := o20 (a := 1) (b := 89) (byt_of hR_odds_b0 (j := 51) rfl) (byt_of hR_odds_b0 (j := 52) rfl) (byt_of hR_odds_b0 (j := 53) rfl) rfl
theorem dR_odds_54 : decode (mcc mR_odds) 54 = .ok (.lreturn, 1) := o173 (byt_of hR_odds_b0 (j := 54) rfl)
theorem dR_odds_55 : decode (mcc mR_odds) 55 = .ok (.lconst 0, 1) := o9 (byt_of hR_odds_b0 (j := 55) rfl)
theorem dR_odds_56 : decode (mcc mR_odds) 56 = .ok (.lstore 6, 2) := o55 (a := 6) (byt_of hR_odds_b0 (j := 56) rfl) (byt_of hR_odds_b0 (j := 57) rfl)
theorem dR_odds_58 : decode (mcc mR_odds) 58 = .ok (.iconst 0, 1) := o3 (byt_of hR_odds_b0 (j := 58) rfl)
theorem dR_odds_59 : decode (mcc mR_odds) 59 = .ok (.istore 8, 2) := o54 (a := 8) (byt_of hR_odds_b0 (j := 59) rfl) (byt_of hR_odds_b0 (j := 60) rfl)
theorem dR_odds_61 : decode (mcc mR_odds) 61 = .ok (.iload 8, 2) := o21 (a := 8) (byt_of hR_odds_b0 (j := 61) rfl) (byt_of hR_odds_b0 (j := 62) rfl)
theorem dR_odds_63 : decode (mcc mR_odds) 63 = .ok (.iload_n 3, 1) := o29 (byt_of hR_odds_b0 (j := 63) rfl)
theorem dR_odds_64 : decode (mcc mR_odds) 64 = .ok (.if_icmp .ge 51, 3) := o162 (a := 0) (b := 51) (byt_of hR_odds_b0 (j := 64) rfl) (byt_of hR_odds_b0 (j := 65) rfl) (byt_of hR_odds_b0 (j := 66) rfl) rfl
theorem dR_odds_67 : decode (mcc mR_odds) 67 = .ok (.aload_n 0, 1) := o42 (byt_of hR_odds_b0 (j := 67) rfl)
theorem dR_odds_68 : decode (mcc mR_odds) 68 = .ok (.iload_n 2, 1) := o28 (byt_of hR_odds_b0 (j := 68) rfl)
theorem dR_odds_69 : decode (mcc mR_odds) 69 = .ok (.iload 8, 2) := o21 (a := 8) (byt_of hR_odds_b0 (j := 69) rfl) (byt_of hR_odds_b0 (j := 70) rfl)
theorem dR_odds_71 : decode (mcc mR_odds) 71 = .ok (.iadd, 1) := o96 (byt_of hR_odds_b0 (j := 71) rfl)
theorem dR_odds_72 : decode (mcc mR_odds) 72 = .ok (.ldc_w 353, 3) := o19 (a := 1) (b := 97) (byt_of hR_odds_b0 (j := 72) rfl) (byt_of hR_odds_b0 (j := 73) rfl) (byt_of hR_odds_b0 (j := 74) rfl) rfl
theorem dR_odds_75 : decode (mcc mR_odds) 75 = .ok (.if_icmp .le 9, 3) := o164 (a := 0) (b := 9) (byt_of hR_odds_b0 (j := 75) rfl) (byt_of hR_odds_b0 (j := 76) rfl) (byt_of hR_odds_b0 (j := 77) rfl) rfl
theorem dR_odds_78 : decode (mcc mR_odds) 78 = .ok (.ldc_w 353, 3) := o19 (a := 1) (b := 97) (byt_of hR_odds_b0 (j := 78) rfl) (byt_of hR_odds_b0 (j := 79) rfl) (byt_of hR_odds_b0 (j := 80) rfl) rfl
theorem dR_odds_81 : decode (mcc mR_odds) 81 = .ok (.goto 7, 3) := o167 (a := 0) (b := 7) (byt_of hR_odds_b0 (j := 81) rfl) (byt_of hR_odds_b0 (j := 82) rfl) (byt_of hR_odds_b0 (j := 83) rfl) rfl
theorem dR_odds_84 : decode (mcc mR_odds) 84 = .ok (.iload_n 2, 1) := o28 (byt_of hR_odds_b0 (j := 84) rfl)
theorem dR_odds_85 : decode (mcc mR_odds) 85 = .ok (.iload 8, 2) := o21 (a := 8) (byt_of hR_odds_b0 (j := 85) rfl) (byt_of hR_odds_b0 (j := 86) rfl)
theorem dR_odds_87 : decode (mcc mR_odds) 87 = .ok (.iadd, 1) := o96 (byt_of hR_odds_b0 (j := 87) rfl)
theorem dR_odds_88 : decode (mcc mR_odds) 88 = .ok (.invokevirtual 354, 3) := o182 (a := 1) (b := 98) (byt_of hR_odds_b0 (j := 88) rfl) (byt_of hR_odds_b0 (j := 89) rfl) (byt_of hR_odds_b0 (j := 90) rfl) rfl
theorem dR_odds_91 : decode (mcc mR_odds) 91 = .ok (.lload 6, 2) := o22 (a := 6) (byt_of hR_odds_b0 (j := 91) rfl) (byt_of hR_odds_b0 (j := 92) rfl)
theorem dR_odds_93 : decode (mcc mR_odds) 93 = .ok (.aload_n 0, 1) := o42 (byt_of hR_odds_b0 (j := 93) rfl)
theorem dR_odds_94 : decode (mcc mR_odds) 94 = .ok (.iload_n 1, 1) := o27 (byt_of hR_odds_b0 (j := 94) rfl)
theorem dR_odds_95 : decode (mcc mR_odds) 95 = .ok (.invokevirtual 307, 3) := o182 (a := 1) (b := 51) (byt_of hR_odds_b0 (j := 95) rfl) (byt_of hR_odds_b0 (j := 96) rfl) (byt_of hR_odds_b0 (j := 97) rfl) rfl
def bR_odds_b1 : List Nat := [1, 51, 153, 0, 7, 10, 167, 0, 4, 9, 97, 55, 6, 132, 8, 1, 167, 255, 205, 22, 6, 29, 133, 21, 4, 184, 1, 101, 173]
theorem hR_odds_b1 : BL (mcc mR_odds) 96 bR_odds_b1 := by decide +kernel
theorem dR_odds_98 : decode (mcc mR_odds) 98 = .ok (.ifCond .eq 7, 3) := o153 (a := 0) (b := 7) (byt_of hR_odds_b1 (j := 2) rfl) (byt_of hR_odds_b1 (j := 3) rfl) (byt_of hR_odds_b1 (j := 4) rfl) rfl
theorem dR_odds_101 : decode (mcc mR_odds) 101 = .ok (.lconst 1, 1) := o10 (byt_of hR_odds_b1 (j := 5) rfl)
theorem dR_odds_102 : decode (mcc mR_odds) 102 = .ok (.goto 4, 3) := o167 (a := 0) (b := 4) (byt_of hR_odds_b1 (j := 6) rfl) (byt_of hR_odds_b1 (j := 7) rfl) (byt_of hR_odds_b1 (j := 8) rfl) rfl
theorem dR_odds_105 : decode (mcc mR_odds) 105 = .ok (.lconst 0, 1) := o9 (byt_of hR_odds_b1 (j := 9) rfl)
theorem dR_odds_106 : decode (mcc mR_odds) 106 = .ok (.ladd, 1) := o97 (byt_of hR_odds_b1 (j := 10) rfl)
theorem dR_odds_107 : decode (mcc mR_odds) 107 = .ok (.lstore 6, 2) := o55 (a := 6) (byt_of hR_odds_b1 (j := 11) rfl) (byt_of hR_odds_b1 (j := 12) rfl)
theorem dR_odds_109 : decode (mcc mR_odds) 109 = .ok (.iinc 8 1, 3) := o132 (a := 8) (b := 1) (byt_of hR_odds_b1 (j := 13) rfl) (byt_of hR_odds_b1 (j := 14) rfl) (byt_of hR_odds_b1 (j := 15) rfl) rfl
theorem dR_odds_112 : decode (mcc mR_odds) 112 = .ok (.goto (-51), 3) := o167 (a := 255) (b := 205) (byt_of hR_odds_b1 (j := 16) rfl) (byt_of hR_odds_b1 (j := 17) rfl) (byt_of hR_odds_b1 (j := 18) rfl) rfl
theorem dR_odds_115 : decode (mcc mR_odds) 115 = .ok (.lload 6, 2) := o22 (a := 6) (byt_of hR_odds_b1 (j := 19) rfl) (byt_of hR_odds_b1 (j := 20) rfl)
theorem dR_odds_117 : decode (mcc mR_odds) 117 = .ok (.iload_n 3, 1) := o29 (byt_of hR_odds_b1 (j := 21) rfl)
theorem dR_odds_118 : decode (mcc mR_odds) 118 = .ok (.i2l, 1) := o133 (byt_of hR_odds_b1 (j := 22) rfl)
theorem dR_odds_119 : decode (mcc mR_odds) 119 = .ok (.iload 4, 2) := o21 (a := 4) (byt_of hR_odds_b1 (j := 23) rfl) (byt_of hR_odds_b1 (j := 24) rfl)
theorem dR_odds_121 : decode (mcc mR_odds) 121 = .ok (.invokestatic 357, 3) := o184 (a := 1) (b := 101) (byt_of hR_odds_b1 (j := 25) rfl) (byt_of hR_odds_b1 (j := 26) rfl) (byt_of hR_odds_b1 (j := 27) rfl) rfl
theorem dR_odds_124 : decode (mcc mR_odds) 124 = .ok (.lreturn, 1) := o173 (byt_of hR_odds_b1 (j := 28) rfl)
def bR_image_b0 : List Nat := [42, 4, 181, 1, 105, 42, 42, 180, 0, 16, 181, 1, 108, 42, 42, 180, 0, 148, 181, 1, 111, 42, 42, 180, 0, 158, 181, 1, 114, 42, 42, 180, 0, 164, 181, 1, 117, 3, 60, 27, 16, 36, 162, 0, 21, 42, 180, 0, 77, 27, 42, 180, 0, 7, 27, 46, 79, 132, 1, 1, 167, 255, 235, 3, 60, 27, 16, 6, 162, 0, 21, 42, 180, 0, 80, 27, 42, 180, 0, 13, 27, 46, 79, 132, 1, 1, 167, 255, 235, 3, 60, 27, 16, 8, 162, 0, 21, 42, 180, 0, 83, 27]
theorem hR_image_b0 : BL (mcc mR_image) 0 bR_image_b0 := by decide +kernel
theorem dR_image_0 : decode (mcc mR_image) 0 = .ok (.aload_n 0, 1) := o42 (byt_of hR_image_b0 (j := 0) rfl)
theorem dR_image_1 : decode (mcc mR_image) 1 = .ok (.iconst 1, 1) := o4 (byt_of hR_image_b0 (j := 1) rfl)
theorem dR_image_2 : decode (mcc mR_image) 2 = .ok (.putfield 361, 3) := o181 (a := 1) (b := 105) (byt_of hR_image_b0 (j := 2) rfl) (byt_of hR_image_b0 (j := 3) rfl) (byt_of hR_image_b0 (j := 4) rfl) rfl
theorem dR_image_5 : decode (mcc mR_image) 5 = .ok (.aload_n 0, 1) := o42 (byt_of hR_image_b0 (j := 5) rfl)
theorem dR_image_6 : decode (mcc mR_image) 6 = .ok (.aload_n 0, 1) := o42 (byt_of hR_image_b0 (j := 6) rfl)
theorem dR_image_7 : decode (mcc mR_image) 7 = .ok (.getfield 16, 3) := o180 (a := 0) (b := 16) (byt_of hR_image_b0 (j := 7) rfl) (byt_of hR_image_b0 (j := 8) rfl) (byt_of hR_image_b0 (j := 9) rfl) rfl
theorem dR_image_10 : decode (mcc mR_image) 10 = .ok (.putfield 364, 3) := o181 (a := 1) (b := 108) (byt_of hR_image_b0 (j := 10) rfl) (byt_of hR_image_b0 (j := 11) rfl) (byt_of hR_image_b0 (j := 12) rfl) rfl
theorem dR_image_13 : decode (mcc mR_image) 13 = .ok (.aload_n 0, 1) := o42 (byt_of hR_image_b0 (j := 13) rfl)
theorem dR_image_14 : decode (mcc mR_image) 14 = .ok (.aload_n 0, 1) := o42 (byt_of hR_image_b0 (j := 14) rfl)
theorem dR_image_15 : decode (mcc mR_image) 15 = .ok (.getfield 148, 3) := o180 (a := 0) (b := 148) (byt_of hR_image_b0 (j := 15) rfl) (byt_of hR_image_b0 (j := 16) rfl) (byt_of hR_image_b0 (j := 17) rfl) rfl
theorem dR_image_18 : decode (mcc mR_image) 18 = .ok (.putfield 367, 3) := o181 (a := 1) (b := 111) (byt_of hR_image_b0 (j := 18) rfl) (byt_of hR_image_b0 (j := 19) rfl) (byt_of hR_image_b0 (j := 20) rfl) rfl
theorem dR_image_21 : decode (mcc mR_image) 21 = .ok (.aload_n 0, 1) := o42 (byt_of hR_image_b0 (j := 21) rfl)
theorem dR_image_22 : decode (mcc mR_image) 22 = .ok (.aload_n 0, 1) := o42 (byt_of hR_image_b0 (j := 22) rfl)
theorem dR_image_23 : decode (mcc mR_image) 23 = .ok (.getfield 158, 3) := o180 (a := 0) (b := 158) (byt_of hR_image_b0 (j := 23) rfl) (byt_of hR_image_b0 (j := 24) rfl) (byt_of hR_image_b0 (j := 25) rfl) rfl
theorem dR_image_26 : decode (mcc mR_image) 26 = .ok (.putfield 370, 3) := o181 (a := 1) (b := 114) (byt_of hR_image_b0 (j := 26) rfl) (byt_of hR_image_b0 (j := 27) rfl) (byt_of hR_image_b0 (j := 28) rfl) rfl
theorem dR_image_29 : decode (mcc mR_image) 29 = .ok (.aload_n 0, 1) := o42 (byt_of hR_image_b0 (j := 29) rfl)
theorem dR_image_30 : decode (mcc mR_image) 30 = .ok (.aload_n 0, 1) := o42 (byt_of hR_image_b0 (j := 30) rfl)
theorem dR_image_31 : decode (mcc mR_image) 31 = .ok (.getfield 164, 3) := o180 (a := 0) (b := 164) (byt_of hR_image_b0 (j := 31) rfl) (byt_of hR_image_b0 (j := 32) rfl) (byt_of hR_image_b0 (j := 33) rfl) rfl
theorem dR_image_34 : decode (mcc mR_image) 34 = .ok (.putfield 373, 3) := o181 (a := 1) (b := 117) (byt_of hR_image_b0 (j := 34) rfl) (byt_of hR_image_b0 (j := 35) rfl) (byt_of hR_image_b0 (j := 36) rfl) rfl
theorem dR_image_37 : decode (mcc mR_image) 37 = .ok (.iconst 0, 1) := o3 (byt_of hR_image_b0 (j := 37) rfl)
theorem dR_image_38 : decode (mcc mR_image) 38 = .ok (.istore_n 1, 1) := o60 (byt_of hR_image_b0 (j := 38) rfl)
theorem dR_image_39 : decode (mcc mR_image) 39 = .ok (.iload_n 1, 1) := o27 (byt_of hR_image_b0 (j := 39) rfl)
theorem dR_image_40 : decode (mcc mR_image) 40 = .ok (.bipush 36, 2) := o16 (a := 36) (byt_of hR_image_b0 (j := 40) rfl) (byt_of hR_image_b0 (j := 41) rfl) rfl
theorem dR_image_42 : decode (mcc mR_image) 42 = .ok (.if_icmp .ge 21, 3) := o162 (a := 0) (b := 21) (byt_of hR_image_b0 (j := 42) rfl) (byt_of hR_image_b0 (j := 43) rfl) (byt_of hR_image_b0 (j := 44) rfl) rfl
theorem dR_image_45 : decode (mcc mR_image) 45 = .ok (.aload_n 0, 1) := o42 (byt_of hR_image_b0 (j := 45) rfl)
theorem dR_image_46 : decode (mcc mR_image) 46 = .ok (.getfield 77, 3) := o180 (a := 0) (b := 77) (byt_of hR_image_b0 (j := 46) rfl) (byt_of hR_image_b0 (j := 47) rfl) (byt_of hR_image_b0 (j := 48) rfl) rfl
theorem dR_image_49 : decode (mcc mR_image) 49 = .ok (.iload_n 1, 1) := o27 (byt_of hR_image_b0 (j := 49) rfl)
theorem dR_image_50 : decode (mcc mR_image) 50 = .ok (.aload_n 0, 1) := o42 (byt_of hR_image_b0 (j := 50) rfl)
theorem dR_image_51 : decode (mcc mR_image) 51 = .ok (.getfield 7, 3) := o180 (a := 0) (b := 7) (byt_of hR_image_b0 (j := 51) rfl) (byt_of hR_image_b0 (j := 52) rfl) (byt_of hR_image_b0 (j := 53) rfl) rfl
theorem dR_image_54 : decode (mcc mR_image) 54 = .ok (.iload_n 1, 1) := o27 (byt_of hR_image_b0 (j := 54) rfl)
theorem dR_image_55 : decode (mcc mR_image) 55 = .ok (.iaload, 1) := o46 (byt_of hR_image_b0 (j := 55) rfl)
theorem dR_image_56 : decode (mcc mR_image) 56 = .ok (.iastore, 1) := o79 (byt_of hR_image_b0 (j := 56) rfl)
theorem dR_image_57 : decode (mcc mR_image) 57 = .ok (.iinc 1 1, 3) := o132 (a := 1) (b := 1) (byt_of hR_image_b0 (j := 57) rfl) (byt_of hR_image_b0 (j := 58) rfl) (byt_of hR_image_b0 (j := 59) rfl) rfl
theorem dR_image_60 : decode (mcc mR_image) 60 = .ok (.goto (-21), 3) := o167 (a := 255) (b := 235) (byt_of hR_image_b0 (j := 60) rfl) (byt_of hR_image_b0 (j := 61) rfl) (byt_of hR_image_b0 (j := 62) rfl) rfl
theorem dR_image_63 : decode (mcc mR_image) 63 = .ok (.iconst 0, 1) := o3 (byt_of hR_image_b0 (j := 63) rfl)
theorem dR_image_64 : decode (mcc mR_image) 64 = .ok (.istore_n 1, 1) := o60 (byt_of hR_image_b0 (j := 64) rfl)
theorem dR_image_65 : decode (mcc mR_image) 65 = .ok (.iload_n 1, 1) := o27 (byt_of hR_image_b0 (j := 65) rfl)
theorem dR_image_66 : decode (mcc mR_image) 66 = .ok (.bipush 6, 2) := o16 (a := 6) (byt_of hR_image_b0 (j := 66) rfl) (byt_of hR_image_b0 (j := 67) rfl) rfl
theorem dR_image_68 : decode (mcc mR_image) 68 = .ok (.if_icmp .ge 21, 3) := o162 (a := 0) (b := 21) (byt_of hR_image_b0 (j := 68) rfl) (byt_of hR_image_b0 (j := 69) rfl) (byt_of hR_image_b0 (j := 70) rfl) rfl
theorem dR_image_71 : decode (mcc mR_image) 71 = .ok (.aload_n 0, 1) := o42 (byt_of hR_image_b0 (j := 71) rfl)
theorem dR_image_72 : decode (mcc mR_image) 72 = .ok (.getfield 80, 3) := o180 (a := 0) (b := 80) (byt_of hR_image_b0 (j := 72) rfl) (byt_of hR_image_b0 (j := 73) rfl) (byt_of hR_image_b0 (j := 74) rfl) rfl
theorem dR_image_75 : decode (mcc mR_image) 75 = .ok (.iload_n 1, 1) := o27 (byt_of hR_image_b0 (j := 75) rfl)
theorem dR_image_76 : decode (mcc mR_image) 76 = .ok (.aload_n 0, 1) := o42 (byt_of hR_image_b0 (j := 76) rfl)
theorem dR_image_77 : decode (mcc mR_image) 77 = .ok (.getfield 13, 3) := o180 (a := 0) (b := 13) (byt_of hR_image_b0 (j := 77) rfl) (byt_of hR_image_b0 (j := 78) rfl) (byt_of hR_image_b0 (j := 79) rfl) rfl
theorem dR_image_80 : decode (mcc mR_image) 80 = .ok (.iload_n 1, 1) := o27 (byt_of hR_image_b0 (j := 80) rfl)
theorem dR_image_81 : decode (mcc mR_image) 81 = .ok (.iaload, 1) := o46 (byt_of hR_image_b0 (j := 81) rfl)
theorem dR_image_82 : decode (mcc mR_image) 82 = .ok (.iastore, 1) := o79 (byt_of hR_image_b0 (j := 82) rfl)
theorem dR_image_83 : decode (mcc mR_image) 83 = .ok (.iinc 1 1, 3) := o132 (a := 1) (b := 1) (byt_of hR_image_b0 (j := 83) rfl) (byt_of hR_image_b0 (j := 84) rfl) (byt_of hR_image_b0 (j := 85) rfl) rfl
theorem dR_image_86 : decode (mcc mR_image) 86 = .ok (.goto (-21), 3) := o167 (a := 255) (b := 235) (byt_of hR_image_b0 (j := 86) rfl) (byt_of hR_image_b0 (j := 87) rfl) (byt_of hR_image_b0 (j := 88) rfl) rfl
theorem dR_image_89 : decode (mcc mR_image) 89 = .ok (.iconst 0, 1) := o3 (byt_of hR_image_b0 (j := 89) rfl)
theorem dR_image_90 : decode (mcc mR_image) 90 = .ok (.istore_n 1, 1) := o60 (byt_of hR_image_b0 (j := 90) rfl)
theorem dR_image_91 : decode (mcc mR_image) 91 = .ok (.iload_n 1, 1) := o27 (byt_of hR_image_b0 (j := 91) rfl)
theorem dR_image_92 : decode (mcc mR_image) 92 = .ok (.bipush 8, 2) := o16 (a := 8) (byt_of hR_image_b0 (j := 92) rfl) (byt_of hR_image_b0 (j := 93) rfl) rfl
theorem dR_image_94 : decode (mcc mR_image) 94 = .ok (.if_icmp .ge 21, 3) := o162 (a := 0) (b := 21) (byt_of hR_image_b0 (j := 94) rfl) (byt_of hR_image_b0 (j := 95) rfl) (byt_of hR_image_b0 (j := 96) rfl) rfl
def bR_image_b1 : List Nat := [21, 42, 180, 0, 83, 27, 42, 180, 0, 41, 27, 46, 79, 132, 1, 1, 167, 255, 235, 3, 60, 27, 16, 11, 162, 0, 57, 42, 180, 0, 86, 27, 42, 180, 0, 56, 27, 46, 79, 42, 180, 0, 89, 27, 42, 180, 0, 59, 27, 46, 79, 42, 180, 0, 92, 27, 42, 180, 0, 62, 27, 46, 79, 42, 180, 0, 95, 27, 42, 180, 0, 65, 27, 46, 79, 132, 1, 1, 167, 255, 199, 42, 180, 0, 158, 172]
theorem hR_image_b1 : BL (mcc mR_image) 96 bR_image_b1 := by decide +kernel
theorem dR_image_97 : decode (mcc mR_image) 97 = .ok (.aload_n 0, 1) := o42 (byt_of hR_image_b1 (j := 1) rfl)
theorem dR_image_98 : decode (mcc mR_image) 98 = .ok (.getfield 83, 3) := o180 (a := 0) (b := 83) (byt_of hR_image_b1 (j := 2) rfl) (byt_of hR_image_b1 (j := 3) rfl) (byt_of hR_image_b1 (j := 4) rfl) rfl
theorem dR_image_101 : decode (mcc mR_image) 101 = .ok (.iload_n 1, 1) := o27 (byt_of hR_image_b1 (j := 5) rfl)
theorem dR_image_102 : decode (mcc mR_image) 102 = .ok (.aload_n 0, 1) := o42 (byt_of hR_image_b1 (j := 6) rfl)
theorem dR_image_103 : decode (mcc mR_image) 103 = .ok (.getfield 41, 3) := o180 (a := 0) (b := 41) (byt_of hR_image_b1 (j := 7) rfl) (byt_of hR_image_b1 (j := 8) rfl) (byt_of hR_image_b1 (j := 9) rfl) rfl
theorem dR_image_106 : decode (mcc mR_image) 106 = .ok (.iload_n 1, 1) := o27 (byt_of hR_image_b1 (j := 10) rfl)
theorem dR_image_107 : decode (mcc mR_image) 107 = .ok (.iaload, 1) := o46 (byt_of hR_image_b1 (j := 11) rfl)
theorem dR_image_108 : decode (mcc mR_image) 108 = .ok (.iastore, 1) := o79 (byt_of hR_image_b1 (j := 12) rfl)
theorem dR_image_109 : decode (mcc mR_image) 109 = .ok (.iinc 1 1, 3) := o132 (a := 1) (b := 1) (byt_of hR_image_b1 (j := 13) rfl) (byt_of hR_image_b1 (j := 14) rfl) (byt_of hR_image_b1 (j := 15) rfl) rfl
theorem dR_image_112 : decode (mcc mR_image) 112 = .ok (.goto (-21), 3) := o167 (a := 255) (b := 235) (byt_of hR_image_b1 (j := 16) rfl) (byt_of hR_image_b1 (j := 17) rfl) (byt_of hR_image_b1 (j := 18) rfl) rfl
theorem dR_image_115 : decode (mcc mR_image) 115 = .ok (.iconst 0, 1) := o3 (byt_of hR_image_b1 (j := 19) rfl)
theorem dR_image_116 : decode (mcc mR_image) 116 = .ok (.istore_n 1, 1) := o60 (byt_of hR_image_b1 (j := 20) rfl)
theorem dR_image_117 : decode (mcc mR_image) 117 = .ok (.iload_n 1, 1) := o27 (byt_of hR_image_b1 (j := 21) rfl)
theorem dR_image_118 : decode (mcc mR_image) 118 = .ok (.bipush 11, 2) := o16 (a := 11) (byt_of hR_image_b1 (j := 22) rfl) (byt_of hR_image_b1 (j := 23) rfl) rfl
theorem dR_image_120 : decode (mcc mR_image) 120 = .ok (.if_icmp .ge 57, 3) := o162 (a := 0) (b := 57) (byt_of hR_image_b1 (j := 24) rfl) (byt_of hR_image_b1 (j := 25) rfl) (byt_of hR_image_b1 (j := 26) rfl) rfl
theorem dR_image_123 : decode (mcc mR_image) 123 = .ok (.aload_n 0, 1) := o42 (byt_of hR_image_b1 (j := 27) rfl)
theorem dR_image_124 : decode (mcc mR_image) 124 = .ok (.getfield 86, 3) := o180 (a := 0) (b := 86) (byt_of hR_image_b1 (j := 28) rfl) (byt_of hR_image_b1 (j := 29) rfl) (byt_of hR_image_b1 (j := 30) rfl) rfl
theorem dR_image_127 : decode (mcc mR_image) 127 = .ok (.iload_n 1, 1) := o27 (byt_of hR_image_b1 (j := 31) rfl)
theorem dR_image_128 : decode (mcc mR_image) 128 = .ok (.aload_n 0, 1) := o42 (byt_of hR_image_b1 (j := 32) rfl)
theorem dR_image_129 : decode (mcc mR_image) 129 = .ok (.getfield 56, 3) := o180 (a := 0) (b := 56) (byt_of hR_image_b1 (j := 33) rfl) (byt_of hR_image_b1 (j := 34) rfl) (byt_of hR_image_b1 (j := 35) rfl) rfl
theorem dR_image_132 : decode (mcc mR_image) 132 = .ok (.iload_n 1, 1) := o27 (byt_of hR_image_b1 (j := 36) rfl)
theorem dR_image_133 : decode (mcc mR_image) 133 = .ok (.iaload, 1) := o46 (byt_of hR_image_b1 (j := 37) rfl)
theorem dR_image_134 : decode (mcc mR_image) 134 = .ok (.iastore, 1) := o79 (byt_of hR_image_b1 (j := 38) rfl)
theorem dR_image_135 : decode (mcc mR_image) 135 = .ok (.aload_n 0, 1) := o42 (byt_of hR_image_b1 (j := 39) rfl)
theorem dR_image_136 : decode (mcc mR_image) 136 = .ok (.getfield 89, 3) := o180 (a := 0) (b := 89) (byt_of hR_image_b1 (j := 40) rfl) (byt_of hR_image_b1 (j := 41) rfl) (byt_of hR_image_b1 (j := 42) rfl) rfl
theorem dR_image_139 : decode (mcc mR_image) 139 = .ok (.iload_n 1, 1) := o27 (byt_of hR_image_b1 (j := 43) rfl)
theorem dR_image_140 : decode (mcc mR_image) 140 = .ok (.aload_n 0, 1) := o42 (byt_of hR_image_b1 (j := 44) rfl)
theorem dR_image_141 : decode (mcc mR_image) 141 = .ok (.getfield 59, 3) := o180 (a := 0) (b := 59) (byt_of hR_image_b1 (j := 45) rfl) (byt_of hR_image_b1 (j := 46) rfl) (byt_of hR_image_b1 (j := 47) rfl) rfl
theorem dR_image_144 : decode (mcc mR_image) 144 = .ok (.iload_n 1, 1) := o27 (byt_of hR_image_b1 (j := 48) rfl)
theorem dR_image_145 : decode (mcc mR_image) 145 = .ok (.iaload, 1) := o46 (byt_of hR_image_b1 (j := 49) rfl)
theorem dR_image_146 : decode (mcc mR_image) 146 = .ok (.iastore, 1) := o79 (byt_of hR_image_b1 (j := 50) rfl)
theorem dR_image_147 : decode (mcc mR_image) 147 = .ok (.aload_n 0, 1) := o42 (byt_of hR_image_b1 (j := 51) rfl)
theorem dR_image_148 : decode (mcc mR_image) 148 = .ok (.getfield 92, 3) := o180 (a := 0) (b := 92) (byt_of hR_image_b1 (j := 52) rfl) (byt_of hR_image_b1 (j := 53) rfl) (byt_of hR_image_b1 (j := 54) rfl) rfl
theorem dR_image_151 : decode (mcc mR_image) 151 = .ok (.iload_n 1, 1) := o27 (byt_of hR_image_b1 (j := 55) rfl)
theorem dR_image_152 : decode (mcc mR_image) 152 = .ok (.aload_n 0, 1) := o42 (byt_of hR_image_b1 (j := 56) rfl)
theorem dR_image_153 : decode (mcc mR_image) 153 = .ok (.getfield 62, 3) := o180 (a := 0) (b := 62) (byt_of hR_image_b1 (j := 57) rfl) (byt_of hR_image_b1 (j := 58) rfl) (byt_of hR_image_b1 (j := 59) rfl) rfl
theorem dR_image_156 : decode (mcc mR_image) 156 = .ok (.iload_n 1, 1) := o27 (byt_of hR_image_b1 (j := 60) rfl)
theorem dR_image_157 : decode (mcc mR_image) 157 = .ok (.iaload, 1) := o46 (byt_of hR_image_b1 (j := 61) rfl)
theorem dR_image_158 : decode (mcc mR_image) 158 = .ok (.iastore, 1) := o79 (byt_of hR_image_b1 (j := 62) rfl)
theorem dR_image_159 : decode (mcc mR_image) 159 = .ok (.aload_n 0, 1) := o42 (byt_of hR_image_b1 (j := 63) rfl)
theorem dR_image_160 : decode (mcc mR_image) 160 = .ok (.getfield 95, 3) := o180 (a := 0) (b := 95) (byt_of hR_image_b1 (j := 64) rfl) (byt_of hR_image_b1 (j := 65) rfl) (byt_of hR_image_b1 (j := 66) rfl) rfl
theorem dR_image_163 : decode (mcc mR_image) 163 = .ok (.iload_n 1, 1) := o27 (byt_of hR_image_b1 (j := 67) rfl)
theorem dR_image_164 : decode (mcc mR_image) 164 = .ok (.aload_n 0, 1) := o42 (byt_of hR_image_b1 (j := 68) rfl)
theorem dR_image_165 : decode (mcc mR_image) 165 = .ok (.getfield 65, 3) := o180 (a := 0) (b := 65) (byt_of hR_image_b1 (j := 69) rfl) (byt_of hR_image_b1 (j := 70) rfl) (byt_of hR_image_b1 (j := 71) rfl) rfl
theorem dR_image_168 : decode (mcc mR_image) 168 = .ok (.iload_n 1, 1) := o27 (byt_of hR_image_b1 (j := 72) rfl)
theorem dR_image_169 : decode (mcc mR_image) 169 = .ok (.iaload, 1) := o46 (byt_of hR_image_b1 (j := 73) rfl)
theorem dR_image_170 : decode (mcc mR_image) 170 = .ok (.iastore, 1) := o79 (byt_of hR_image_b1 (j := 74) rfl)
theorem dR_image_171 : decode (mcc mR_image) 171 = .ok (.iinc 1 1, 3) := o132 (a := 1) (b := 1) (byt_of hR_image_b1 (j := 75) rfl) (byt_of hR_image_b1 (j := 76) rfl) (byt_of hR_image_b1 (j := 77) rfl) rfl
theorem dR_image_174 : decode (mcc mR_image) 174 = .ok (.goto (-57), 3) := o167 (a := 255) (b := 199) (byt_of hR_image_b1 (j := 78) rfl) (byt_of hR_image_b1 (j := 79) rfl) (byt_of hR_image_b1 (j := 80) rfl) rfl
theorem dR_image_177 : decode (mcc mR_image) 177 = .ok (.aload_n 0, 1) := o42 (byt_of hR_image_b1 (j := 81) rfl)
theorem dR_image_178 : decode (mcc mR_image) 178 = .ok (.getfield 158, 3) := o180 (a := 0) (b := 158) (byt_of hR_image_b1 (j := 82) rfl) (byt_of hR_image_b1 (j := 83) rfl) (byt_of hR_image_b1 (j := 84) rfl) rfl
theorem dR_image_181 : decode (mcc mR_image) 181 = .ok (.ireturn, 1) := o172 (byt_of hR_image_b1 (j := 85) rfl)
def bR_back_b0 : List Nat := [42, 180, 1, 105, 154, 0, 6, 16, 253, 172, 42, 42, 180, 1, 108, 181, 0, 16, 42, 42, 180, 1, 114, 181, 0, 158, 42, 42, 180, 1, 117, 181, 0, 164, 3, 60, 27, 16, 36, 162, 0, 21, 42, 180, 0, 7, 27, 42, 180, 0, 77, 27, 46, 79, 132, 1, 1, 167, 255, 235, 3, 60, 27, 16, 6, 162, 0, 21, 42, 180, 0, 13, 27, 42, 180, 0, 80, 27, 46, 79, 132, 1, 1, 167, 255, 235, 3, 60, 27, 42, 180, 1, 111, 162, 0, 21, 42, 180, 0, 41, 27, 42]
theorem hR_back_b0 : BL (mcc mR_back) 0 bR_back_b0 := by decide +kernel
theorem dR_back_0 : decode (mcc mR_back) 0 = .ok (.aload_n 0, 1) := o42 (byt_of hR_back_b0 (j := 0) rfl)
theorem dR_back_1 : decode (mcc mR_back) 1 = .ok (.getfield 361, 3) := o180 (a := 1) (b := 105) (byt_of hR_back_b0 (j := 1) rfl) (byt_of hR_back_b0 (j := 2) rfl) (byt_of hR_back_b0 (j := 3) rfl) rfl
theorem dR_back_4 : decode (mcc mR_back) 4 = .ok (.ifCond .ne 6, 3) := o154 (a := 0) (b := 6) (byt_of hR_back_b0 (j := 4) rfl) (byt_of hR_back_b0 (j := 5) rfl) (byt_of hR_back_b0 (j := 6) rfl) rfl
theorem dR_back_7 : decode (mcc mR_back) 7 = .ok (.bipush (-3), 2) := o16 (a := 253) (byt_of hR_back_b0 (j := 7) rfl) (byt_of hR_back_b0 (j := 8) rfl) rfl
theorem dR_back_9 : decode (mcc mR_back) 9 = .ok (.ireturn, 1) := o172 (byt_of hR_back_b0 (j := 9) rfl)
theorem dR_back_10 : decode (mcc mR_back) 10 = .ok (.aload_n 0, 1) := o42 (byt_of hR_back_b0 (j := 10) rfl)
theorem dR_back_11 : decode (mcc mR_back) 11 = .ok (.aload_n 0, 1) := o42 (byt_of hR_back_b0 (j := 11) rfl)
theorem dR_back_12 : decode (mcc mR_back) 12 = .ok (.getfield 364, 3) := o180 (a := 1) (b := 108) (byt_of hR_back_b0 (j := 12) rfl) (byt_of hR_back_b0 (j := 13) rfl) (byt_of hR_back_b0 (j := 14) rfl) rfl
theorem dR_back_15 : decode (mcc mR_back) 15 = .ok (.putfield 16, 3) := o181 (a := 0) (b := 16) (byt_of hR_back_b0 (j := 15) rfl) (byt_of hR_back_b0 (j := 16) rfl) (byt_of hR_back_b0 (j := 17) rfl) rfl
theorem dR_back_18 : decode (mcc mR_back) 18 = .ok (.aload_n 0, 1) := o42 (byt_of hR_back_b0 (j := 18) rfl)
theorem dR_back_19 : decode (mcc mR_back) 19 = .ok (.aload_n 0, 1) := o42 (byt_of hR_back_b0 (j := 19) rfl)
theorem dR_back_20 : decode (mcc mR_back) 20 = .ok (.getfield 370, 3) := o180 (a := 1) (b := 114) (byt_of hR_back_b0 (j := 20) rfl) (byt_of hR_back_b0 (j := 21) rfl) (byt_of hR_back_b0 (j := 22) rfl) rfl
theorem dR_back_23 : decode (mcc mR_back) 23 = .ok (.putfield 158, 3) := o181 (a := 0) (b := 158) (byt_of hR_back_b0 (j := 23) rfl) (byt_of hR_back_b0 (j := 24) rfl) (byt_of hR_back_b0 (j := 25) rfl) rfl
theorem dR_back_26 : decode (mcc mR_back) 26 = .ok (.aload_n 0, 1) := o42 (byt_of hR_back_b0 (j := 26) rfl)
theorem dR_back_27 : decode (mcc mR_back) 27 = .ok (.aload_n 0, 1) := o42 (byt_of hR_back_b0 (j := 27) rfl)
theorem dR_back_28 : decode (mcc mR_back) 28 = .ok (.getfield 373, 3) := o180 (a := 1) (b := 117) (byt_of hR_back_b0 (j := 28) rfl) (byt_of hR_back_b0 (j := 29) rfl) (byt_of hR_back_b0 (j := 30) rfl) rfl
theorem dR_back_31 : decode (mcc mR_back) 31 = .ok (.putfield 164, 3) := o181 (a := 0) (b := 164) (byt_of hR_back_b0 (j := 31) rfl) (byt_of hR_back_b0 (j := 32) rfl) (byt_of hR_back_b0 (j := 33) rfl) rfl
theorem dR_back_34 : decode (mcc mR_back) 34 = .ok (.iconst 0, 1) := o3 (byt_of hR_back_b0 (j := 34) rfl)
theorem dR_back_35 : decode (mcc mR_back) 35 = .ok (.istore_n 1, 1) := o60 (byt_of hR_back_b0 (j := 35) rfl)
theorem dR_back_36 : decode (mcc mR_back) 36 = .ok (.iload_n 1, 1) := o27 (byt_of hR_back_b0 (j := 36) rfl)
theorem dR_back_37 : decode (mcc mR_back) 37 = .ok (.bipush 36, 2) := o16 (a := 36) (byt_of hR_back_b0 (j := 37) rfl) (byt_of hR_back_b0 (j := 38) rfl) rfl
theorem dR_back_39 : decode (mcc mR_back) 39 = .ok (.if_icmp .ge 21, 3) := o162 (a := 0) (b := 21) (byt_of hR_back_b0 (j := 39) rfl) (byt_of hR_back_b0 (j := 40) rfl) (byt_of hR_back_b0 (j := 41) rfl) rfl
theorem dR_back_42 : decode (mcc mR_back) 42 = .ok (.aload_n 0, 1) := o42 (byt_of hR_back_b0 (j := 42) rfl)
theorem dR_back_43 : decode (mcc mR_back) 43 = .ok (.getfield 7, 3) := o180 (a := 0) (b := 7) (byt_of hR_back_b0 (j := 43) rfl) (byt_of hR_back_b0 (j := 44) rfl) (byt_of hR_back_b0 (j := 45) rfl) rfl
theorem dR_back_46 : decode (mcc mR_back) 46 = .ok (.iload_n 1, 1) := o27 (byt_of hR_back_b0 (j := 46) rfl)
theorem dR_back_47 : decode (mcc mR_back) 47 = .ok (.aload_n 0, 1) := o42 (byt_of hR_back_b0 (j := 47) rfl)
theorem dR_back_48 : decode (mcc mR_back) 48 = .ok (.getfield 77, 3) := o180 (a := 0) (b := 77) (byt_of hR_back_b0 (j := 48) rfl) (byt_of hR_back_b0 (j := 49) rfl) (byt_of hR_back_b0 (j := 50) rfl) rfl
theorem dR_back_51 : decode (mcc mR_back) 51 = .ok (.iload_n 1, 1) := o27 (byt_of hR_back_b0 (j := 51) rfl)
theorem dR_back_52 : decode (mcc mR_back) 52 = .ok (.iaload, 1) := o46 (byt_of hR_back_b0 (j := 52) rfl)
theorem dR_back_53 : decode (mcc mR_back) 53 = .ok (.iastore, 1) := o79 (byt_of hR_back_b0 (j := 53) rfl)
theorem dR_back_54 : decode (mcc mR_back) 54 = .ok (.iinc 1 1, 3) := o132 (a := 1) (b := 1) (byt_of hR_back_b0 (j := 54) rfl) (byt_of hR_back_b0 (j := 55) rfl) (byt_of hR_back_b0 (j := 56) rfl) rfl
theorem dR_back_57 : decode (mcc mR_back) 57 = .ok (.goto (-21), 3) := o167 (a := 255) (b := 235) (byt_of hR_back_b0 (j := 57) rfl) (byt_of hR_back_b0 (j := 58) rfl) (byt_of hR_back_b0 (j := 59) rfl) rfl
theorem dR_back_60 : decode (mcc mR_back) 60 = .ok (.iconst 0, 1) := o3 (byt_of hR_back_b0 (j := 60) rfl)
theorem dR_back_61 : decode (mcc mR_back) 61 = .ok (.istore_n 1, 1) := o60 (byt_of hR_back_b0 (j := 61) rfl)
theorem dR_back_62 : decode (mcc mR_back) 62 = .ok (.iload_n 1, 1) := o27 (byt_of hR_back_b0 (j := 62) rfl)
theorem dR_back_63 : decode (mcc mR_back) 63 = .ok (.bipush 6, 2) := o16 (a := 6) (byt_of hR_back_b0 (j := 63) rfl) (byt_of hR_back_b0 (j := 64) rfl) rfl
theorem dR_back_65 : decode (mcc mR_back) 65 = .ok (.if_icmp .ge 21, 3) := o162 (a := 0) (b := 21) (byt_of hR_back_b0 (j := 65) rfl) (byt_of hR_back_b0 (j := 66) rfl) (byt_of hR_back_b0 (j := 67) rfl) rfl
theorem dR_back_68 : decode (mcc mR_back) 68 = .ok (.aload_n 0, 1) := o42 (byt_of hR_back_b0 (j := 68) rfl)
theorem dR_back_69 : decode (mcc mR_back) 69 = .ok (.getfield 13, 3) := o180 (a := 0) (b := 13) (byt_of hR_back_b0 (j := 69) rfl) (byt_of hR_back_b0 (j := 70) rfl) (byt_of hR_back_b0 (j := 71) rfl) rfl
theorem dR_back_72 : decode (mcc mR_back) 72 = .ok (.iload_n 1, 1) := o27 (byt_of hR_back_b0 (j := 72) rfl)
theorem dR_back_73 : decode (mcc mR_back) 73 = .ok (.aload_n 0, 1) := o42 (byt_of hR_back_b0 (j := 73) rfl)
theorem dR_back_74 : decode (mcc mR_back) 74 = .ok (.getfield 80, 3) := o180 (a := 0) (b := 80) (byt_of hR_back_b0 (j := 74) rfl) (byt_of hR_back_b0 (j := 75) rfl) (byt_of hR_back_b0 (j := 76) rfl) rfl
theorem dR_back_77 : decode (mcc mR_back) 77 = .ok (.iload_n 1, 1) := o27 (byt_of hR_back_b0 (j := 77) rfl)
theorem dR_back_78 : decode (mcc mR_back) 78 = .ok (.iaload, 1) := o46 (byt_of hR_back_b0 (j := 78) rfl)
theorem dR_back_79 : decode (mcc mR_back) 79 = .ok (.iastore, 1) := o79 (byt_of hR_back_b0 (j := 79) rfl)
theorem dR_back_80 : decode (mcc mR_back) 80 = .ok (.iinc 1 1, 3) := o132 (a := 1) (b := 1) (byt_of hR_back_b0 (j := 80) rfl) (byt_of hR_back_b0 (j := 81) rfl) (byt_of hR_back_b0 (j := 82) rfl) rfl
theorem dR_back_83 : decode (mcc mR_back) 83 = .ok (.goto (-21), 3) := o167 (a := 255) (b := 235) (byt_of hR_back_b0 (j := 83) rfl) (byt_of hR_back_b0 (j := 84) rfl) (byt_of hR_back_b0 (j := 85) rfl) rfl
theorem dR_back_86 : decode (mcc mR_back) 86 = .ok (.iconst 0, 1) := o3 (byt_of hR_back_b0 (j := 86) rfl)
theorem dR_back_87 : decode (mcc mR_back) 87 = .ok (.istore_n 1, 1) := o60 (byt_of hR_back_b0 (j := 87) rfl)
theorem dR_back_88 : decode (mcc mR_back) 88 = .ok (.iload_n 1, 1) := o27 (byt_of hR_back_b0 (j := 88) rfl)
theorem dR_back_89 : decode (mcc mR_back) 89 = .ok (.aload_n 0, 1) := o42 (byt_of hR_back_b0 (j := 89) rfl)
theorem dR_back_90 : decode (mcc mR_back) 90 = .ok (.getfield 367, 3) := o180 (a := 1) (b := 111) (byt_of hR_back_b0 (j := 90) rfl) (byt_of hR_back_b0 (j := 91) rfl) (byt_of hR_back_b0 (j := 92) rfl) rfl
theorem dR_back_93 : decode (mcc mR_back) 93 = .ok (.if_icmp .ge 21, 3) := o162 (a := 0) (b := 21) (byt_of hR_back_b0 (j := 93) rfl) (byt_of hR_back_b0 (j := 94) rfl) (byt_of hR_back_b0 (j := 95) rfl) rfl
def bR_back_b1 : List Nat := [42, 180, 0, 41, 27, 42, 180, 0, 83, 27, 46, 79, 132, 1, 1, 167, 255, 233, 3, 60, 27, 16, 11, 162, 0, 57, 42, 180, 0, 56, 27, 42, 180, 0, 86, 27, 46, 79, 42, 180, 0, 59, 27, 42, 180, 0, 89, 27, 46, 79, 42, 180, 0, 62, 27, 42, 180, 0, 92, 27, 46, 79, 42, 180, 0, 65, 27, 42, 180, 0, 95, 27, 46, 79, 132, 1, 1, 167, 255, 199, 42, 180, 0, 158, 172]
theorem hR_back_b1 : BL (mcc mR_back) 96 bR_back_b1 := by decide +kernel
theorem dR_back_96 : decode (mcc mR_back) 96 = .ok (.aload_n 0, 1) := o42 (byt_of hR_back_b1 (j := 0) rfl)
theorem dR_back_97 : decode (mcc mR_back) 97 = .ok (.getfield 41, 3) := o180 (a := 0) (b := 41) (byt_of hR_back_b1 (j := 1) rfl) (byt_of hR_back_b1 (j := 2) rfl) (byt_of hR_back_b1 (j := 3) rfl) rfl
theorem dR_back_100 : decode (mcc mR_back) 100 = .ok (.iload_n 1, 1) := o27 (byt_of hR_back_b1 (j := 4) rfl)
theorem dR_back_101 : decode (mcc mR_back) 101 = .ok (.aload_n 0, 1) := o42 (byt_of hR_back_b1 (j := 5) rfl)
theorem dR_back_102 : decode (mcc mR_back) 102 = .ok (.getfield 83, 3) := o180 (a := 0) (b := 83) (byt_of hR_back_b1 (j := 6) rfl) (byt_of hR_back_b1 (j := 7) rfl) (byt_of hR_back_b1 (j := 8) rfl) rfl
theorem dR_back_105 : decode (mcc mR_back) 105 = .ok (.iload_n 1, 1) := o27 (byt_of hR_back_b1 (j := 9) rfl)
theorem dR_back_106 : decode (mcc mR_back) 106 = .ok (.iaload, 1) := o46 (byt_of hR_back_b1 (j := 10) rfl)
theorem dR_back_107 : decode (mcc mR_back) 107 = .ok (.iastore, 1) := o79 (byt_of hR_back_b1 (j := 11) rfl)
theorem dR_back_108 : decode (mcc mR_back) 108 = .ok (.iinc 1 1, 3) := o132 (a := 1) (b := 1) (byt_of hR_back_b1 (j := 12) rfl) (byt_of hR_back_b1 (j := 13) rfl) (byt_of hR_back_b1 (j := 14) rfl) rfl
theorem dR_back_111 : decode (mcc mR_back) 111 = .ok (.goto (-23), 3) := o167 (a := 255) (b := 233) (byt_of hR_back_b1 (j := 15) rfl) (byt_of hR_back_b1 (j := 16) rfl) (byt_of hR_back_b1 (j := 17) rfl) rfl
theorem dR_back_114 : decode (mcc mR_back) 114 = .ok (.iconst 0, 1) := o3 (byt_of hR_back_b1 (j := 18) rfl)
theorem dR_back_115 : decode (mcc mR_back) 115 = .ok (.istore_n 1, 1) := o60 (byt_of hR_back_b1 (j := 19) rfl)
theorem dR_back_116 : decode (mcc mR_back) 116 = .ok (.iload_n 1, 1) := o27 (byt_of hR_back_b1 (j := 20) rfl)
theorem dR_back_117 : decode (mcc mR_back) 117 = .ok (.bipush 11, 2) := o16 (a := 11) (byt_of hR_back_b1 (j := 21) rfl) (byt_of hR_back_b1 (j := 22) rfl) rfl
theorem dR_back_119 : decode (mcc mR_back) 119 = .ok (.if_icmp .ge 57, 3) := o162 (a := 0) (b := 57) (byt_of hR_back_b1 (j := 23) rfl) (byt_of hR_back_b1 (j := 24) rfl) (byt_of hR_back_b1 (j := 25) rfl) rfl
theorem dR_back_122 : decode (mcc mR_back) 122 = .ok (.aload_n 0, 1) := o42 (byt_of hR_back_b1 (j := 26) rfl)
theorem dR_back_123 : decode (mcc mR_back) 123 = .ok (.getfield 56, 3) := o180 (a := 0) (b := 56) (byt_of hR_back_b1 (j := 27) rfl) (byt_of hR_back_b1 (j := 28) rfl) (byt_of hR_back_b1 (j := 29) rfl) rfl
theorem dR_back_126 : decode (mcc mR_back) 126 = .ok (.iload_n 1, 1) := o27 (byt_of hR_back_b1 (j := 30) rfl)
theorem dR_back_127 : decode (mcc mR_back) 127 = .ok (.aload_n 0, 1) := o42 (byt_of hR_back_b1 (j := 31) rfl)
theorem dR_back_128 : decode (mcc mR_back) 128 = .ok (.getfield 86, 3) := o180 (a := 0) (b := 86) (byt_of hR_back_b1 (j := 32) rfl) (byt_of hR_back_b1 (j := 33) rfl) (byt_of hR_back_b1 (j := 34) rfl) rfl
theorem dR_back_131 : decode (mcc mR_back) 131 = .ok (.iload_n 1, 1) := o27 (byt_of hR_back_b1 (j := 35) rfl)
theorem dR_back_132 : decode (mcc mR_back) 132 = .ok (.iaload, 1) := o46 (byt_of hR_back_b1 (j := 36) rfl)
theorem dR_back_133 : decode (mcc mR_back) 133 = .ok (.iastore, 1) := o79 (byt_of hR_back_b1 (j := 37) rfl)
theorem dR_back_134 : decode (mcc mR_back) 134 = .ok (.aload_n 0, 1) := o42 (byt_of hR_back_b1 (j := 38) rfl)
theorem dR_back_135 : decode (mcc mR_back) 135 = .ok (.getfield 59, 3) := o180 (a := 0) (b := 59) (byt_of hR_back_b1 (j := 39) rfl) (byt_of hR_back_b1 (j := 40) rfl) (byt_of hR_back_b1 (j := 41) rfl) rfl
theorem dR_back_138 : decode (mcc mR_back) 138 = .ok (.iload_n 1, 1) := o27 (byt_of hR_back_b1 (j := 42) rfl)
theorem dR_back_139 : decode (mcc mR_back) 139 = .ok (.aload_n 0, 1) := o42 (byt_of hR_back_b1 (j := 43) rfl)
theorem dR_back_140 : decode (mcc mR_back) 140 = .ok (.getfield 89, 3) := o180 (a := 0) (b := 89) (byt_of hR_back_b1 (j := 44) rfl) (byt_of hR_back_b1 (j := 45) rfl) (byt_of hR_back_b1 (j := 46) rfl) rfl
theorem dR_back_143 : decode (mcc mR_back) 143 = .ok (.iload_n 1, 1) := o27 (byt_of hR_back_b1 (j := 47) rfl)
theorem dR_back_144 : decode (mcc mR_back) 144 = .ok (.iaload, 1) := o46 (byt_of hR_back_b1 (j := 48) rfl)
theorem dR_back_145 : decode (mcc mR_back) 145 = .ok (.iastore, 1) := o79 (byt_of hR_back_b1 (j := 49) rfl)
theorem dR_back_146 : decode (mcc mR_back) 146 = .ok (.aload_n 0, 1) := o42 (byt_of hR_back_b1 (j := 50) rfl)
theorem dR_back_147 : decode (mcc mR_back) 147 = .ok (.getfield 62, 3) := o180 (a := 0) (b := 62) (byt_of hR_back_b1 (j := 51) rfl) (byt_of hR_back_b1 (j := 52) rfl) (byt_of hR_back_b1 (j := 53) rfl) rfl
theorem dR_back_150 : decode (mcc mR_back) 150 = .ok (.iload_n 1, 1) := o27 (byt_of hR_back_b1 (j := 54) rfl)
theorem dR_back_151 : decode (mcc mR_back) 151 = .ok (.aload_n 0, 1) := o42 (byt_of hR_back_b1 (j := 55) rfl)
theorem dR_back_152 : decode (mcc mR_back) 152 = .ok (.getfield 92, 3) := o180 (a := 0) (b := 92) (byt_of hR_back_b1 (j := 56) rfl) (byt_of hR_back_b1 (j := 57) rfl) (byt_of hR_back_b1 (j := 58) rfl) rfl
theorem dR_back_155 : decode (mcc mR_back) 155 = .ok (.iload_n 1, 1) := o27 (byt_of hR_back_b1 (j := 59) rfl)
theorem dR_back_156 : decode (mcc mR_back) 156 = .ok (.iaload, 1) := o46 (byt_of hR_back_b1 (j := 60) rfl)
theorem dR_back_157 : decode (mcc mR_back) 157 = .ok (.iastore, 1) := o79 (byt_of hR_back_b1 (j := 61) rfl)
theorem dR_back_158 : decode (mcc mR_back) 158 = .ok (.aload_n 0, 1) := o42 (byt_of hR_back_b1 (j := 62) rfl)
theorem dR_back_159 : decode (mcc mR_back) 159 = .ok (.getfield 65, 3) := o180 (a := 0) (b := 65) (byt_of hR_back_b1 (j := 63) rfl) (byt_of hR_back_b1 (j := 64) rfl) (byt_of hR_back_b1 (j := 65) rfl) rfl
theorem dR_back_162 : decode (mcc mR_back) 162 = .ok (.iload_n 1, 1) := o27 (byt_of hR_back_b1 (j := 66) rfl)
theorem dR_back_163 : decode (mcc mR_back) 163 = .ok (.aload_n 0, 1) := o42 (byt_of hR_back_b1 (j := 67) rfl)
theorem dR_back_164 : decode (mcc mR_back) 164 = .ok (.getfield 95, 3) := o180 (a := 0) (b := 95) (byt_of hR_back_b1 (j := 68) rfl) (byt_of hR_back_b1 (j := 69) rfl) (byt_of hR_back_b1 (j := 70) rfl) rfl
theorem dR_back_167 : decode (mcc mR_back) 167 = .ok (.iload_n 1, 1) := o27 (byt_of hR_back_b1 (j := 71) rfl)
theorem dR_back_168 : decode (mcc mR_back) 168 = .ok (.iaload, 1) := o46 (byt_of hR_back_b1 (j := 72) rfl)
theorem dR_back_169 : decode (mcc mR_back) 169 = .ok (.iastore, 1) := o79 (byt_of hR_back_b1 (j := 73) rfl)
theorem dR_back_170 : decode (mcc mR_back) 170 = .ok (.iinc 1 1, 3) := o132 (a := 1) (b := 1) (byt_of hR_back_b1 (j := 74) rfl) (byt_of hR_back_b1 (j := 75) rfl) (byt_of hR_back_b1 (j := 76) rfl) rfl
theorem dR_back_173 : decode (mcc mR_back) 173 = .ok (.goto (-57), 3) := o167 (a := 255) (b := 199) (byt_of hR_back_b1 (j := 77) rfl) (byt_of hR_back_b1 (j := 78) rfl) (byt_of hR_back_b1 (j := 79) rfl) rfl
theorem dR_back_176 : decode (mcc mR_back) 176 = .ok (.aload_n 0, 1) := o42 (byt_of hR_back_b1 (j := 80) rfl)
theorem dR_back_177 : decode (mcc mR_back) 177 = .ok (.getfield 158, 3) := o180 (a := 0) (b := 158) (byt_of hR_back_b1 (j := 81) rfl) (byt_of hR_back_b1 (j := 82) rfl) (byt_of hR_back_b1 (j := 83) rfl) rfl
theorem dR_back_180 : decode (mcc mR_back) 180 = .ok (.ireturn, 1) := o172 (byt_of hR_back_b1 (j := 84) rfl)
def bR_sheet_b0 : List Nat := [27, 3, 6, 184, 0, 151, 153, 0, 23, 28, 2, 5, 184, 0, 151, 153, 0, 14, 28, 2, 159, 0, 12, 29, 16, 40, 164, 0, 6, 16, 254, 172, 28, 2, 159, 0, 10, 29, 156, 0, 6, 16, 242, 172, 42, 180, 0, 98, 27, 28, 79, 42, 180, 0, 101, 27, 28, 2, 160, 0, 7, 3, 167, 0, 4, 29, 79, 3, 54, 4, 21, 4, 16, 40, 162, 0, 22, 42, 180, 0, 104, 16, 40, 27, 104, 21, 4, 96, 3, 79, 132, 4, 1, 167, 255, 233, 4, 172]
theorem hR_sheet_b0 : BL (mcc mR_sheet) 0 bR_sheet_b0 := by decide +kernel
theorem dR_sheet_0 : decode (mcc mR_sheet) 0 = .ok (.iload_n 1, 1) := o27 (byt_of hR_sheet_b0 (j := 0) rfl)
theorem dR_sheet_1 : decode (mcc mR_sheet) 1 = .ok (.iconst 0, 1) := o3 (byt_of hR_sheet_b0 (j := 1) rfl)
theorem dR_sheet_2 : decode (mcc mR_sheet) 2 = .ok (.iconst 3, 1) := o6 (byt_of hR_sheet_b0 (j := 2) rfl)
theorem dR_sheet_3 : decode (mcc mR_sheet) 3 = .ok (.invokestatic 151, 3) := o184 (a := 0) (b := 151) (byt_of hR_sheet_b0 (j := 3) rfl) (byt_of hR_sheet_b0 (j := 4) rfl) (byt_of hR_sheet_b0 (j := 5) rfl) rfl
theorem dR_sheet_6 : decode (mcc mR_sheet) 6 = .ok (.ifCond .eq 23, 3) := o153 (a := 0) (b := 23) (byt_of hR_sheet_b0 (j := 6) rfl) (byt_of hR_sheet_b0 (j := 7) rfl) (byt_of hR_sheet_b0 (j := 8) rfl) rfl
theorem dR_sheet_9 : decode (mcc mR_sheet) 9 = .ok (.iload_n 2, 1) := o28 (byt_of hR_sheet_b0 (j := 9) rfl)
theorem dR_sheet_10 : decode (mcc mR_sheet) 10 = .ok (.iconst (-1), 1) := o2 (byt_of hR_sheet_b0 (j := 10) rfl)
theorem dR_sheet_11 : decode (mcc mR_sheet) 11 = .ok (.iconst 2, 1) := o5 (byt_of hR_sheet_b0 (j := 11) rfl)
theorem dR_sheet_12 : decode (mcc mR_sheet) 12 = .ok (.invokestatic 151, 3) := o184 (a := 0) (b := 151) (byt_of hR_sheet_b0 (j := 12) rfl) (byt_of hR_sheet_b0 (j := 13) rfl) (byt_of hR_sheet_b0 (j := 14) rfl) rfl
theorem dR_sheet_15 : decode (mcc mR_sheet) 15 = .ok (.ifCond .eq 14, 3) := o153 (a := 0) (b := 14) (byt_of hR_sheet_b0 (j := 15) rfl) (byt_of hR_sheet_b0 (j := 16) rfl) (byt_of hR_sheet_b0 (j := 17) rfl) rfl
theorem dR_sheet_18 : decode (mcc mR_sheet) 18 = .ok (.iload_n 2, 1) := o28 (byt_of hR_sheet_b0 (j := 18) rfl)
theorem dR_sheet_19 : decode (mcc mR_sheet) 19 = .ok (.iconst (-1), 1) := o2 (byt_of hR_sheet_b0 (j := 19) rfl)
theorem dR_sheet_20 : decode (mcc mR_sheet) 20 = .ok (.if_icmp .eq 12, 3) := o159 (a := 0) (b := 12) (byt_of hR_sheet_b0 (j := 20) rfl) (byt_of hR_sheet_b0 (j := 21) rfl) (byt_of hR_sheet_b0 (j := 22) rfl) rfl
theorem dR_sheet_23 : decode (mcc mR_sheet) 23 = .ok (.iload_n 3, 1) := o29 (byt_of hR_sheet_b0 (j := 23) rfl)
theorem dR_sheet_24 : decode (mcc mR_sheet) 24 = .ok (.bipush 40, 2) := o16 (a := 40) (byt_of hR_sheet_b0 (j := 24) rfl) (byt_of hR_sheet_b0 (j := 25) rfl) rfl
theorem dR_sheet_26 : decode (mcc mR_sheet) 26 = .ok (.if_icmp .le 6, 3) := o164 (a := 0) (b := 6) (byt_of hR_sheet_b0 (j := 26) rfl) (byt_of hR_sheet_b0 (j := 27) rfl) (byt_of hR_sheet_b0 (j := 28) rfl) rfl
theorem dR_sheet_29 : decode (mcc mR_sheet) 29 = .ok (.bipush (-2), 2) := o16 (a := 254) (byt_of hR_sheet_b0 (j := 29) rfl) (byt_of hR_sheet_b0 (j := 30) rfl) rfl
theorem dR_sheet_31 : decode (mcc mR_sheet) 31 = .ok (.ireturn, 1) := o172 (byt_of hR_sheet_b0 (j := 31) rfl)
theorem dR_sheet_32 : decode (mcc mR_sheet) 32 = .ok (.iload_n 2, 1) := o28 (byt_of hR_sheet_b0 (j := 32) rfl)
theorem dR_sheet_33 : decode (mcc mR_sheet) 33 = .ok (.iconst (-1), 1) := o2 (byt_of hR_sheet_b0 (j := 33) rfl)
theorem dR_sheet_34 : decode (mcc mR_sheet) 34 = .ok (.if_icmp .eq 10, 3) := o159 (a := 0) (b := 10) (byt_of hR_sheet_b0 (j := 34) rfl) (byt_of hR_sheet_b0 (j := 35) rfl) (byt_of hR_sheet_b0 (j := 36) rfl) rfl
theorem dR_sheet_37 : decode (mcc mR_sheet) 37 = .ok (.iload_n 3, 1) := o29 (byt_of hR_sheet_b0 (j := 37) rfl)
theorem dR_sheet_38 : decode (mcc mR_sheet) 38 = .ok (.ifCond .ge 6, 3) := o156 (a := 0) (b := 6) (byt_of hR_sheet_b0 (j := 38) rfl) (byt_of hR_sheet_b0 (j := 39) rfl) (byt_of hR_sheet_b0 (j := 40) rfl) rfl
theorem dR_sheet_41 : decode (mcc mR_sheet) 41 = .ok (.bipush (-14), 2) := o16 (a := 242) (byt_of hR_sheet_b0 (j := 41) rfl) (byt_of hR_sheet_b0 (j := 42) rfl) rfl
theorem dR_sheet_43 : decode (mcc mR_sheet) 43 = .ok (.ireturn, 1) := o172 (byt_of hR_sheet_b0 (j := 43) rfl)
theorem dR_sheet_44 : decode (mcc mR_sheet) 44 = .ok (.aload_n 0, 1) := o42 (byt_of hR_sheet_b0 (j := 44) rfl)
theorem dR_sheet_45 : decode (mcc mR_sheet) 45 = .ok (.getfield 98, 3) := o180 (a := 0) (b := 98) (byt_of hR_sheet_b0 (j := 45) rfl) (byt_of hR_sheet_b0 (j := 46) rfl) (byt_of hR_sheet_b0 (j := 47) rfl) rfl
theorem dR_sheet_48 : decode (mcc mR_sheet) 48 = .ok (.iload_n 1, 1) := o27 (byt_of hR_sheet_b0 (j := 48) rfl)
theorem dR_sheet_49 : decode (mcc mR_sheet) 49 = .ok (.iload_n 2, 1) := o28 (byt_of hR_sheet_b0 (j := 49) rfl)
theorem dR_sheet_50 : decode (mcc mR_sheet) 50 = .ok (.iastore, 1) := o79 (byt_of hR_sheet_b0 (j := 50) rfl)
theorem dR_sheet_51 : decode (mcc mR_sheet) 51 = .ok (.aload_n 0, 1) := o42 (byt_of hR_sheet_b0 (j := 51) rfl)
theorem dR_sheet_52 : decode (mcc mR_sheet) 52 = .ok (.getfield 101, 3) := o180 (a := 0) (b := 101) (byt_of hR_sheet_b0 (j := 52) rfl) (byt_of hR_sheet_b0 (j := 53) rfl) (byt_of hR_sheet_b0 (j := 54) rfl) rfl
theorem dR_sheet_55 : decode (mcc mR_sheet) 55 = .ok (.iload_n 1, 1) := o27 (byt_of hR_sheet_b0 (j := 55) rfl)
theorem dR_sheet_56 : decode (mcc mR_sheet) 56 = .ok (.iload_n 2, 1) := o28 (byt_of hR_sheet_b0 (j := 56) rfl)
theorem dR_sheet_57 : decode (mcc mR_sheet) 57 = .ok (.iconst (-1), 1) := o2 (byt_of hR_sheet_b0 (j := 57) rfl)
theorem dR_sheet_58 : decode (mcc mR_sheet) 58 = .ok (.if_icmp .ne 7, 3) := o160 (a := 0) (b := 7) (byt_of hR_sheet_b0 (j := 58) rfl) (byt_of hR_sheet_b0 (j := 59) rfl) (byt_of hR_sheet_b0 (j := 60) rfl) rfl
theorem dR_sheet_61 : decode (mcc mR_sheet) 61 = .ok (.iconst 0, 1) := o3 (byt_of hR_sheet_b0 (j := 61) rfl)
theorem dR_sheet_62 : decode (mcc mR_sheet) 62 = .ok (.goto 4, 3) := o167 (a := 0) (b := 4) (byt_of hR_sheet_b0 (j := 62) rfl) (byt_of hR_sheet_b0 (j := 63) rfl) (byt_of hR_sheet_b0 (j := 64) rfl) rfl
theorem dR_sheet_65 : decode (mcc mR_sheet) 65 = .ok (.iload_n 3, 1) := o29 (byt_of hR_sheet_b0 (j := 65) rfl)
theorem dR_sheet_66 : decode (mcc mR_sheet) 66 = .ok (.iastore, 1) := o79 (byt_of hR_sheet_b0 (j := 66) rfl)
theorem dR_sheet_67 : decode (mcc mR_sheet) 67 = .ok (.iconst 0, 1) := o3 (byt_of hR_sheet_b0 (j := 67) rfl)
theorem dR_sheet_68 : decode (mcc mR_sheet) 68 = .ok (.istore 4, 2) := o54 (a := 4) (byt_of hR_sheet_b0 (j := 68) rfl) (byt_of hR_sheet_b0 (j := 69) rfl)
theorem dR_sheet_70 : decode (mcc mR_sheet) 70 = .ok (.iload 4, 2) := o21 (a := 4) (byt_of hR_sheet_b0 (j := 70) rfl) (byt_of hR_sheet_b0 (j := 71) rfl)
theorem dR_sheet_72 : decode (mcc mR_sheet) 72 = .ok (.bipush 40, 2) := o16 (a := 40) (byt_of hR_sheet_b0 (j := 72) rfl) (byt_of hR_sheet_b0 (j := 73) rfl) rfl
theorem dR_sheet_74 : decode (mcc mR_sheet) 74 = .ok (.if_icmp .ge 22, 3) := o162 (a := 0) (b := 22) (byt_of hR_sheet_b0 (j := 74) rfl) (byt_of hR_sheet_b0 (j := 75) rfl) (byt_of hR_sheet_b0 (j := 76) rfl) rfl
theorem dR_sheet_77 : decode (mcc mR_sheet) 77 = .ok (.aload_n 0, 1) := o42 (byt_of hR_sheet_b0 (j := 77) rfl)
theorem dR_sheet_78 : decode (mcc mR_sheet) 78 = .ok (.getfield 104, 3) := o180 (a := 0) (b := 104) (byt_of hR_sheet_b0 (j := 78) rfl) (byt_of hR_sheet_b0 (j := 79) rfl) (byt_of hR_sheet_b0 (j := 80) rfl) rfl
theorem dR_sheet_81 : decode (mcc mR_sheet) 81 = .ok (.bipush 40, 2) := o16 (a := 40) (byt_of hR_sheet_b0 (j := 81) rfl) (byt_of hR_sheet_b0 (j := 82) rfl) rfl
theorem dR_sheet_83 : decode (mcc mR_sheet) 83 = .ok (.iload_n 1, 1) := o27 (byt_of hR_sheet_b0 (j := 83) rfl)
theorem dR_sheet_84 : decode (mcc mR_sheet) 84 = .ok (.imul, 1) := o104 (byt_of hR_sheet_b0 (j := 84) rfl)
theorem dR_sheet_85 : decode (mcc mR_sheet) 85 = .ok (.iload 4, 2) := o21 (a := 4) (byt_of hR_sheet_b0 (j := 85) rfl) (byt_of hR_sheet_b0 (j := 86) rfl)
theorem dR_sheet_87 : decode (mcc mR_sheet) 87 = .ok (.iadd, 1) := o96 (byt_of hR_sheet_b0 (j := 87) rfl)
theorem dR_sheet_88 : decode (mcc mR_sheet) 88 = .ok (.iconst 0, 1) := o3 (byt_of hR_sheet_b0 (j := 88) rfl)
theorem dR_sheet_89 : decode (mcc mR_sheet) 89 = .ok (.iastore, 1) := o79 (byt_of hR_sheet_b0 (j := 89) rfl)
theorem dR_sheet_90 : decode (mcc mR_sheet) 90 = .ok (.iinc 4 1, 3) := o132 (a := 4) (b := 1) (byt_of hR_sheet_b0 (j := 90) rfl) (byt_of hR_sheet_b0 (j := 91) rfl) (byt_of hR_sheet_b0 (j := 92) rfl) rfl
theorem dR_sheet_93 : decode (mcc mR_sheet) 93 = .ok (.goto (-23), 3) := o167 (a := 255) (b := 233) (byt_of hR_sheet_b0 (j := 93) rfl) (byt_of hR_sheet_b0 (j := 94) rfl) (byt_of hR_sheet_b0 (j := 95) rfl) rfl
def bR_sheet_b1 : List Nat := [4, 172]
theorem hR_sheet_b1 : BL (mcc mR_sheet) 96 bR_sheet_b1 := by decide +kernel
theorem dR_sheet_96 : decode (mcc mR_sheet) 96 = .ok (.iconst 1, 1) := o4 (byt_of hR_sheet_b1 (j := 0) rfl)
theorem dR_sheet_97 : decode (mcc mR_sheet) 97 = .ok (.ireturn, 1) := o172 (byt_of hR_sheet_b1 (j := 1) rfl)
def bR_cell_b0 : List Nat := [27, 3, 6, 184, 0, 151, 154, 0, 6, 16, 254, 172, 42, 180, 0, 98, 27, 46, 2, 160, 0, 6, 16, 245, 172, 28, 3, 42, 180, 0, 101, 27, 46, 4, 100, 184, 0, 151, 154, 0, 6, 16, 244, 172, 42, 180, 0, 104, 16, 40, 27, 104, 28, 96, 42, 180, 0, 98, 27, 46, 154, 0, 8, 29, 145, 167, 0, 19, 42, 180, 0, 98, 27, 46, 4, 160, 0, 8, 29, 147, 167, 0, 4, 29, 79, 4, 172]
theorem hR_cell_b0 : BL (mcc mR_cell) 0 bR_cell_b0 := by decide +kernel
theorem dR_cell_0 : decode (mcc mR_cell) 0 = .ok (.iload_n 1, 1) := o27 (byt_of hR_cell_b0 (j := 0) rfl)
theorem dR_cell_1 : decode (mcc mR_cell) 1 = .ok (.iconst 0, 1) := o3 (byt_of hR_cell_b0 (j := 1) rfl)
theorem dR_cell_2 : decode (mcc mR_cell) 2 = .ok (.iconst 3, 1) := o6 (byt_of hR_cell_b0 (j := 2) rfl)
theorem dR_cell_3 : decode (mcc mR_cell) 3 = .ok (.invokestatic 151, 3) := o184 (a := 0) (b := 151) (byt_of hR_cell_b0 (j := 3) rfl) (byt_of hR_cell_b0 (j := 4) rfl) (byt_of hR_cell_b0 (j := 5) rfl) rfl
theorem dR_cell_6 : decode (mcc mR_cell) 6 = .ok (.ifCond .ne 6, 3) := o154 (a := 0) (b := 6) (byt_of hR_cell_b0 (j := 6) rfl) (byt_of hR_cell_b0 (j := 7) rfl) (byt_of hR_cell_b0 (j := 8) rfl) rfl
theorem dR_cell_9 : decode (mcc mR_cell) 9 = .ok (.bipush (-2), 2) := o16 (a := 254) (byt_of hR_cell_b0 (j := 9) rfl) (byt_of hR_cell_b0 (j := 10) rfl) rfl
theorem dR_cell_11 : decode (mcc mR_cell) 11 = .ok (.ireturn, 1) := o172 (byt_of hR_cell_b0 (j := 11) rfl)
theorem dR_cell_12 : decode (mcc mR_cell) 12 = .ok (.aload_n 0, 1) := o42 (byt_of hR_cell_b0 (j := 12) rfl)
theorem dR_cell_13 : decode (mcc mR_cell) 13 = .ok (.getfield 98, 3) := o180 (a := 0) (b := 98) (byt_of hR_cell_b0 (j := 13) rfl) (byt_of hR_cell_b0 (j := 14) rfl) (byt_of hR_cell_b0 (j := 15) rfl) rfl
theorem dR_cell_16 : decode (mcc mR_cell) 16 = .ok (.iload_n 1, 1) := o27 (byt_of hR_cell_b0 (j := 16) rfl)
theorem dR_cell_17 : decode (mcc mR_cell) 17 = .ok (.iaload, 1) := o46 (byt_of hR_cell_b0 (j := 17) rfl)
theorem dR_cell_18 : decode (mcc mR_cell) 18 = .ok (.iconst (-1), 1) := o2 (byt_of hR_cell_b0 (j := 18) rfl)
theorem dR_cell_19 : decode (mcc mR_cell) 19 = .ok (.if_icmp .ne 6, 3) := o160 (a := 0) (b := 6) (byt_of hR_cell_b0 (j := 19) rfl) (byt_of hR_cell_b0 (j := 20) rfl) (byt_of hR_cell_b0 (j := 21) rfl) rfl
theorem dR_cell_22 : decode (mcc mR_cell) 22 = .ok (.bipush (-11), 2) := o16 (a := 245) (byt_of hR_cell_b0 (j := 22) rfl) (byt_of hR_cell_b0 (j := 23) rfl) rfl
theorem dR_cell_24 : decode (mcc mR_cell) 24 = .ok (.ireturn, 1) := o172 (byt_of hR_cell_b0 (j := 24) rfl)
theorem dR_cell_25 : decode (mcc mR_cell) 25 = .ok (.iload_n 2, 1) := o28 (byt_of hR_cell_b0 (j := 25) rfl)
theorem dR_cell_26 : decode (mcc mR_cell) 26 = .ok (.iconst 0, 1) := o3 (byt_of hR_cell_b0 (j := 26) rfl)
theorem dR_cell_27 : decode (mcc mR_cell) 27 = .ok (.aload_n 0, 1) := o42 (byt_of hR_cell_b0 (j := 27) rfl)
theorem dR_cell_28 : decode (mcc mR_cell) 28 = .ok (.getfield 101, 3) := o180 (a := 0) (b := 101) (byt_of hR_cell_b0 (j := 28) rfl) (byt_of hR_cell_b0 (j := 29) rfl) (byt_of hR_cell_b0 (j := 30) rfl) rfl
theorem dR_cell_31 : decode (mcc mR_cell) 31 = .ok (.iload_n 1, 1) := o27 (byt_of hR_cell_b0 (j := 31) rfl)
theorem dR_cell_32 : decode (mcc mR_cell) 32 = .ok (.iaload, 1) := o46 (byt_of hR_cell_b0 (j := 32) rfl)
theorem dR_cell_33 : decode (mcc mR_cell) 33 = .ok (.iconst 1, 1) := o4 (byt_of hR_cell_b0 (j := 33) rfl)
theorem dR_cell_34 : decode (mcc mR_cell) 34 = .ok (.isub, 1) := o100 (byt_of hR_cell_b0 (j := 34) rfl)
theorem dR_cell_35 : decode (mcc mR_cell) 35 = .ok (.invokestatic 151, 3) := o184 (a := 0) (b := 151) (byt_of hR_cell_b0 (j := 35) rfl) (byt_of hR_cell_b0 (j := 36) rfl) (byt_of hR_cell_b0 (j := 37) rfl) rfl
theorem dR_cell_38 : decode (mcc mR_cell) 38 = .ok (.ifCond .ne 6, 3) := o154 (a := 0) (b := 6) (byt_of hR_cell_b0 (j := 38) rfl) (byt_of hR_cell_b0 (j := 39) rfl) (byt_of hR_cell_b0 (j := 40) rfl) rfl
theorem dR_cell_41 : decode (mcc mR_cell) 41 = .ok (.bipush (-12), 2) := o16 (a := 244) (byt_of hR_cell_b0 (j := 41) rfl) (byt_of hR_cell_b0 (j := 42) rfl) rfl
theorem dR_cell_43 : decode (mcc mR_cell) 43 = .ok (.ireturn, 1) := o172 (byt_of hR_cell_b0 (j := 43) rfl)
theorem dR_cell_44 : decode (mcc mR_cell) 44 = .ok (.aload_n 0, 1) := o42 (byt_of hR_cell_b0 (j := 44) rfl)
theorem dR_cell_45 : decode (mcc mR_cell) 45 = .ok (.getfield 104, 3) := o180 (a := 0) (b := 104) (byt_of hR_cell_b0 (j := 45) rfl) (byt_of hR_cell_b0 (j := 46) rfl) (byt_of hR_cell_b0 (j := 47) rfl) rfl
theorem dR_cell_48 : decode (mcc mR_cell) 48 = .ok (.bipush 40, 2) := o16 (a := 40) (byt_of hR_cell_b0 (j := 48) rfl) (byt_of hR_cell_b0 (j := 49) rfl) rfl
theorem dR_cell_50 : decode (mcc mR_cell) 50 = .ok (.iload_n 1, 1) := o27 (byt_of hR_cell_b0 (j := 50) rfl)
theorem dR_cell_51 : decode (mcc mR_cell) 51 = .ok (.imul, 1) := o104 (byt_of hR_cell_b0 (j := 51) rfl)
theorem dR_cell_52 : decode (mcc mR_cell) 52 = .ok (.iload_n 2, 1) := o28 (byt_of hR_cell_b0 (j := 52) rfl)
theorem dR_cell_53 : decode (mcc mR_cell) 53 = .ok (.iadd, 1) := o96 (byt_of hR_cell_b0 (j := 53) rfl)
theorem dR_cell_54 : decode (mcc mR_cell) 54 = .ok (.aload_n 0, 1) := o42 (byt_of hR_cell_b0 (j := 54) rfl)
theorem dR_cell_55 : decode (mcc mR_cell) 55 = .ok (.getfield 98, 3) := o180 (a := 0) (b := 98) (byt_of hR_cell_b0 (j := 55) rfl) (byt_of hR_cell_b0 (j := 56) rfl) (byt_of hR_cell_b0 (j := 57) rfl) rfl
theorem dR_cell_58 : decode (mcc mR_cell) 58 = .ok (.iload_n 1, 1) := o27 (byt_of hR_cell_b0 (j := 58) rfl)
theorem dR_cell_59 : decode (mcc mR_cell) 59 = .ok (.iaload, 1) := o46 (byt_of hR_cell_b0 (j := 59) rfl)
theorem dR_cell_60 : decode (mcc mR_cell) 60 = .ok (.ifCond .ne 8, 3) := o154 (a := 0) (b := 8) (byt_of hR_cell_b0 (j := 60) rfl) (byt_of hR_cell_b0 (j := 61) rfl) (byt_of hR_cell_b0 (j := 62) rfl) rfl
theorem dR_cell_63 : decode (mcc mR_cell) 63 = .ok (.iload_n 3, 1) := o29 (byt_of hR_cell_b0 (j := 63) rfl)
theorem dR_cell_64 : decode (mcc mR_cell) 64 = .ok (.i2b, 1) := o145 (byt_of hR_cell_b0 (j := 64) rfl)
theorem dR_cell_65 : decode (mcc mR_cell) 65 = .ok (.goto 19, 3) := o167 (a := 0) (b := 19) (byt_of hR_cell_b0 (j := 65) rfl) (byt_of hR_cell_b0 (j := 66) rfl) (byt_of hR_cell_b0 (j := 67) rfl) rfl
theorem dR_cell_68 : decode (mcc mR_cell) 68 = .ok (.aload_n 0, 1) := o42 (byt_of hR_cell_b0 (j := 68) rfl)
theorem dR_cell_69 : decode (mcc mR_cell) 69 = .ok (.getfield 98, 3) := o180 (a := 0) (b := 98) (byt_of hR_cell_b0 (j := 69) rfl) (byt_of hR_cell_b0 (j := 70) rfl) (byt_of hR_cell_b0 (j := 71) rfl) rfl
theorem dR_cell_72 : decode (mcc mR_cell) 72 = .ok (.iload_n 1, 1) := o27 (byt_of hR_cell_b0 (j := 72) rfl)
theorem dR_cell_73 : decode (mcc mR_cell) 73 = .ok (.iaload, 1) := o46 (byt_of hR_cell_b0 (j := 73) rfl)
theorem dR_cell_74 : decode (mcc mR_cell) 74 = .ok (.iconst 1, 1) := o4 (byt_of hR_cell_b0 (j := 74) rfl)
theorem dR_cell_75 : decode (mcc mR_cell) 75 = .ok (.if_icmp .ne 8, 3) := o160 (a := 0) (b := 8) (byt_of hR_cell_b0 (j := 75) rfl) (byt_of hR_cell_b0 (j := 76) rfl) (byt_of hR_cell_b0 (j := 77) rfl) rfl
theorem dR_cell_78 : decode (mcc mR_cell) 78 = .ok (.iload_n 3, 1) := o29 (byt_of hR_cell_b0 (j := 78) rfl)
theorem dR_cell_79 : decode (mcc mR_cell) 79 = .ok (.i2s, 1) := o147 (byt_of hR_cell_b0 (j := 79) rfl)
theorem dR_cell_80 : decode (mcc mR_cell) 80 = .ok (.goto 4, 3) := o167 (a := 0) (b := 4) (byt_of hR_cell_b0 (j := 80) rfl) (byt_of hR_cell_b0 (j := 81) rfl) (byt_of hR_cell_b0 (j := 82) rfl) rfl
theorem dR_cell_83 : decode (mcc mR_cell) 83 = .ok (.iload_n 3, 1) := o29 (byt_of hR_cell_b0 (j := 83) rfl)
theorem dR_cell_84 : decode (mcc mR_cell) 84 = .ok (.iastore, 1) := o79 (byt_of hR_cell_b0 (j := 84) rfl)
theorem dR_cell_85 : decode (mcc mR_cell) 85 = .ok (.iconst 1, 1) := o4 (byt_of hR_cell_b0 (j := 85) rfl)
theorem dR_cell_86 : decode (mcc mR_cell) 86 = .ok (.ireturn, 1) := o172 (byt_of hR_cell_b0 (j := 86) rfl)
def bR_copy_b0 : List Nat := [27, 3, 6, 184, 0, 151, 153, 0, 12, 29, 3, 6, 184, 0, 151, 154, 0, 6, 16, 254, 172, 42, 180, 0, 98, 27, 46, 2, 159, 0, 13, 42, 180, 0, 98, 29, 46, 2, 160, 0, 6, 16, 245, 172, 42, 180, 0, 98, 27, 46, 42, 180, 0, 98, 29, 46, 159, 0, 6, 16, 243, 172, 21, 5, 155, 0, 60, 28, 155, 0, 56, 21, 4, 155, 0, 51, 28, 42, 180, 0, 101, 27, 46, 163, 0, 41, 21, 4, 42, 180, 0, 101, 29, 46, 163, 0, 30, 21, 5, 42, 180, 0]
theorem hR_copy_b0 : BL (mcc mR_copy) 0 bR_copy_b0 := by decide +kernel
theorem dR_copy_0 : decode (mcc mR_copy) 0 = .ok (.iload_n 1, 1) := o27 (byt_of hR_copy_b0 (j := 0) rfl)
theorem dR_copy_1 : decode (mcc mR_copy) 1 = .ok (.iconst 0, 1) := o3 (byt_of hR_copy_b0 (j := 1) rfl)
theorem dR_copy_2 : decode (mcc mR_copy) 2 = .ok (.iconst 3, 1) := o6 (byt_of hR_copy_b0 (j := 2) rfl)
theorem dR_copy_3 : decode (mcc mR_copy) 3 = .ok (.invokestatic 151, 3) := o184 (a := 0) (b := 151) (byt_of hR_copy_b0 (j := 3) rfl) (byt_of hR_copy_b0 (j := 4) rfl) (byt_of hR_copy_b0 (j := 5) rfl) rfl
theorem dR_copy_6 : decode (mcc mR_copy) 6 = .ok (.ifCond .eq 12, 3) := o153 (a := 0) (b := 12) (byt_of hR_copy_b0 (j := 6) rfl) (byt_of hR_copy_b0 (j := 7) rfl) (byt_of hR_copy_b0 (j := 8) rfl) rfl
theorem dR_copy_9 : decode (mcc mR_copy) 9 = .ok (.iload_n 3, 1) := o29 (byt_of hR_copy_b0 (j := 9) rfl)
theorem dR_copy_10 : decode (mcc mR_copy) 10 = .ok (.iconst 0, 1) := o3 (byt_of hR_copy_b0 (j := 10) rfl)
theorem dR_copy_11 : decode (mcc mR_copy) 11 = .ok (.iconst 3, 1) := o6 (byt_of hR_copy_b0 (j := 11) rfl)
theorem dR_copy_12 : decode (mcc mR_copy) 12 = .ok (.invokestatic 151, 3) := o184 (a := 0) (b := 151) (byt_of hR_copy_b0 (j := 12) rfl) (byt_of hR_copy_b0 (j := 13) rfl) (byt_of hR_copy_b0 (j := 14) rfl) rfl
theorem dR_copy_15 : decode (mcc mR_copy) 15 = .ok (.ifCond .ne 6, 3) := o154 (a := 0) (b := 6) (byt_of hR_copy_b0 (j := 15) rfl) (byt_of hR_copy_b0 (j := 16) rfl) (byt_of hR_copy_b0 (j := 17) rfl) rfl
theorem dR_copy_18 : decode (mcc mR_copy) 18 = .ok (.bipush (-2), 2) := o16 (a := 254) (byt_of hR_copy_b0 (j := 18) rfl) (byt_of hR_copy_b0 (j := 19) rfl) rfl
theorem dR_copy_20 : decode (mcc mR_copy) 20 = .ok (.ireturn, 1) := o172 (byt_of hR_copy_b0 (j := 20) rfl)
theorem dR_copy_21 : decode (mcc mR_copy) 21 = .ok (.aload_n 0, 1) := o42 (byt_of hR_copy_b0 (j := 21) rfl)
theorem dR_copy_22 : decode (mcc mR_copy) 22 = .ok (.getfield 98, 3) := o180 (a := 0) (b := 98) (byt_of hR_copy_b0 (j := 22) rfl) (byt_of hR_copy_b0 (j := 23) rfl) (byt_of hR_copy_b0 (j := 24) rfl) rfl
theorem dR_copy_25 : decode (mcc mR_copy) 25 = .ok (.iload_n 1, 1) := o27 (byt_of hR_copy_b0 (j := 25) rfl)
theorem dR_copy_26 : decode (mcc mR_copy) 26 = .ok (.iaload, 1) := o46 (byt_of hR_copy_b0 (j := 26) rfl)
theorem dR_copy_27 : decode (mcc mR_copy) 27 = .ok (.iconst (-1), 1) := o2 (byt_of hR_copy_b0 (j := 27) rfl)
theorem dR_copy_28 : decode (mcc mR_copy) 28 = .ok (.if_icmp .eq 13, 3) := o159 (a := 0) (b := 13) (byt_of hR_copy_b0 (j := 28) rfl) (byt_of hR_copy_b0 (j := 29) rfl) (byt_of hR_copy_b0 (j := 30) rfl) rfl
theorem dR_copy_31 : decode (mcc mR_copy) 31 = .ok (.aload_n 0, 1) := o42 (byt_of hR_copy_b0 (j := 31) rfl)
theorem dR_copy_32 : decode (mcc mR_copy) 32 = .ok (.getfield 98, 3) := o180 (a := 0) (b := 98) (byt_of hR_copy_b0 (j := 32) rfl) (byt_of hR_copy_b0 (j := 33) rfl) (byt_of hR_copy_b0 (j := 34) rfl) rfl
theorem dR_copy_35 : decode (mcc mR_copy) 35 = .ok (.iload_n 3, 1) := o29 (byt_of hR_copy_b0 (j := 35) rfl)
theorem dR_copy_36 : decode (mcc mR_copy) 36 = .ok (.iaload, 1) := o46 (byt_of hR_copy_b0 (j := 36) rfl)
theorem dR_copy_37 : decode (mcc mR_copy) 37 = .ok (.iconst (-1), 1) := o2 (byt_of hR_copy_b0 (j := 37) rfl)
theorem dR_copy_38 : decode (mcc mR_copy) 38 = .ok (.if_icmp .ne 6, 3) := o160 (a := 0) (b := 6) (byt_of hR_copy_b0 (j := 38) rfl) (byt_of hR_copy_b0 (j := 39) rfl) (byt_of hR_copy_b0 (j := 40) rfl) rfl
theorem dR_copy_41 : decode (mcc mR_copy) 41 = .ok (.bipush (-11), 2) := o16 (a := 245) (byt_of hR_copy_b0 (j := 41) rfl) (byt_of hR_copy_b0 (j := 42) rfl) rfl
theorem dR_copy_43 : decode (mcc mR_copy) 43 = .ok (.ireturn, 1) := o172 (byt_of hR_copy_b0 (j := 43) rfl)
theorem dR_copy_44 : decode (mcc mR_copy) 44 = .ok (.aload_n 0, 1) := o42 (byt_of hR_copy_b0 (j := 44) rfl)
theorem dR_copy_45 : decode (mcc mR_copy) 45 = .ok (.getfield 98, 3) := o180 (a := 0) (b := 98) (byt_of hR_copy_b0 (j := 45) rfl) (byt_of hR_copy_b0 (j := 46) rfl) (byt_of hR_copy_b0 (j := 47) rfl) rfl
theorem dR_copy_48 : decode (mcc mR_copy) 48 = .ok (.iload_n 1, 1) := o27 (byt_of hR_copy_b0 (j := 48) rfl)
theorem dR_copy_49 : decode (mcc mR_copy) 49 = .ok (.iaload, 1) := o46 (byt_of hR_copy_b0 (j := 49) rfl)
theorem dR_copy_50 : decode (mcc mR_copy) 50 = .ok (.aload_n 0, 1) := o42 (byt_of hR_copy_b0 (j := 50) rfl)
theorem dR_copy_51 : decode (mcc mR_copy) 51 = .ok (.getfield 98, 3) := o180 (a := 0) (b := 98) (byt_of hR_copy_b0 (j := 51) rfl) (byt_of hR_copy_b0 (j := 52) rfl) (byt_of hR_copy_b0 (j := 53) rfl) rfl
theorem dR_copy_54 : decode (mcc mR_copy) 54 = .ok (.iload_n 3, 1) := o29 (byt_of hR_copy_b0 (j := 54) rfl)
theorem dR_copy_55 : decode (mcc mR_copy) 55 = .ok (.iaload, 1) := o46 (byt_of hR_copy_b0 (j := 55) rfl)
theorem dR_copy_56 : decode (mcc mR_copy) 56 = .ok (.if_icmp .eq 6, 3) := o159 (a := 0) (b := 6) (byt_of hR_copy_b0 (j := 56) rfl) (byt_of hR_copy_b0 (j := 57) rfl) (byt_of hR_copy_b0 (j := 58) rfl) rfl
theorem dR_copy_59 : decode (mcc mR_copy) 59 = .ok (.bipush (-13), 2) := o16 (a := 243) (byt_of hR_copy_b0 (j := 59) rfl) (byt_of hR_copy_b0 (j := 60) rfl) rfl
theorem dR_copy_61 : decode (mcc mR_copy) 61 = .ok (.ireturn, 1) := o172 (byt_of hR_copy_b0 (j := 61) rfl)
theorem dR_copy_62 : decode (mcc mR_copy) 62 = .ok (.iload 5, 2) := o21 (a := 5) (byt_of hR_copy_b0 (j := 62) rfl) (byt_of hR_copy_b0 (j := 63) rfl)
theorem dR_copy_64 : decode (mcc mR_copy) 64 = .ok (.ifCond .lt 60, 3) := o155 (a := 0) (b := 60) (byt_of hR_copy_b0 (j := 64) rfl) (byt_of hR_copy_b0 (j := 65) rfl) (byt_of hR_copy_b0 (j := 66) rfl) rfl
theorem dR_copy_67 : decode (mcc mR_copy) 67 = .ok (.iload_n 2, 1) := o28 (byt_of hR_copy_b0 (j := 67) rfl)
theorem dR_copy_68 : decode (mcc mR_copy) 68 = .ok (.ifCond .lt 56, 3) := o155 (a := 0) (b := 56) (byt_of hR_copy_b0 (j := 68) rfl) (byt_of hR_copy_b0 (j := 69) rfl) (byt_of hR_copy_b0 (j := 70) rfl) rfl
theorem dR_copy_71 : decode (mcc mR_copy) 71 = .ok (.iload 4, 2) := o21 (a := 4) (byt_of hR_copy_b0 (j := 71) rfl) (byt_of hR_copy_b0 (j := 72) rfl)
theorem dR_copy_73 : decode (mcc mR_copy) 73 = .ok (.ifCond .lt 51, 3) := o155 (a := 0) (b := 51) (byt_of hR_copy_b0 (j := 73) rfl) (byt_of hR_copy_b0 (j := 74) rfl) (byt_of hR_copy_b0 (j := 75) rfl) rfl
theorem dR_copy_76 : decode (mcc mR_copy) 76 = .ok (.iload_n 2, 1) := o28 (byt_of hR_copy_b0 (j := 76) rfl)
theorem dR_copy_77 : decode (mcc mR_copy) 77 = .ok (.aload_n 0, 1) := o42 (byt_of hR_copy_b0 (j := 77) rfl)
theorem dR_copy_78 : decode (mcc mR_copy) 78 = .ok (.getfield 101, 3) := o180 (a := 0) (b := 101) (byt_of hR_copy_b0 (j := 78) rfl) (byt_of hR_copy_b0 (j := 79) rfl) (byt_of hR_copy_b0 (j := 80) rfl) rfl
theorem dR_copy_81 : decode (mcc mR_copy) 81 = .ok (.iload_n 1, 1) := o27 (byt_of hR_copy_b0 (j := 81) rfl)
theorem dR_copy_82 : decode (mcc mR_copy) 82 = .ok (.iaload, 1) := o46 (byt_of hR_copy_b0 (j := 82) rfl)
theorem dR_copy_83 : decode (mcc mR_copy) 83 = .ok (.if_icmp .gt 41, 3) := o163 (a := 0) (b := 41) (byt_of hR_copy_b0 (j := 83) rfl) (byt_of hR_copy_b0 (j := 84) rfl) (byt_of hR_copy_b0 (j := 85) rfl) rfl
theorem dR_copy_86 : decode (mcc mR_copy) 86 = .ok (.iload 4, 2) := o21 (a := 4) (byt_of hR_copy_b0 (j := 86) rfl) (byt_of hR_copy_b0 (j := 87) rfl)
theorem dR_copy_88 : decode (mcc mR_copy) 88 = .ok (.aload_n 0, 1) := o42 (byt_of hR_copy_b0 (j := 88) rfl)
theorem dR_copy_89 : decode (mcc mR_copy) 89 = .ok (.getfield 101, 3) := o180 (a := 0) (b := 101) (byt_of hR_copy_b0 (j := 89) rfl) (byt_of hR_copy_b0 (j := 90) rfl) (byt_of hR_copy_b0 (j := 91) rfl) rfl
theorem dR_copy_92 : decode (mcc mR_copy) 92 = .ok (.iload_n 3, 1) := o29 (byt_of hR_copy_b0 (j := 92) rfl)
theorem dR_copy_93 : decode (mcc mR_copy) 93 = .ok (.iaload, 1) := o46 (byt_of hR_copy_b0 (j := 93) rfl)
theorem dR_copy_94 : decode (mcc mR_copy) 94 = .ok (.if_icmp .gt 30, 3) := o163 (a := 0) (b := 30) (byt_of hR_copy_b0 (j := 94) rfl) (byt_of hR_copy_b0 (j := 95) rfl) (byt_of hR_copy_b0 (j := 96) rfl) rfl
def bR_copy_b1 : List Nat := [30, 21, 5, 42, 180, 0, 101, 27, 46, 28, 100, 163, 0, 17, 21, 5, 42, 180, 0, 101, 29, 46, 21, 4, 100, 164, 0, 6, 16, 244, 172, 16, 40, 27, 104, 28, 96, 54, 6, 16, 40, 29, 104, 21, 4, 96, 54, 7, 3, 54, 8, 21, 8, 21, 5, 162, 0, 50, 21, 6, 21, 7, 162, 0, 13, 21, 5, 4, 100, 21, 8, 100, 167, 0, 5, 21, 8, 54, 9, 42, 180, 0, 104, 21, 7, 21, 9, 96, 42, 180, 0, 104, 21, 6, 21, 9, 96, 46, 79, 132, 8, 1]
theorem hR_copy_b1 : BL (mcc mR_copy) 96 bR_copy_b1 := by decide +kernel
theorem dR_copy_97 : decode (mcc mR_copy) 97 = .ok (.iload 5, 2) := o21 (a := 5) (byt_of hR_copy_b1 (j := 1) rfl) (byt_of hR_copy_b1 (j := 2) rfl)
theorem dR_copy_99 : decode (mcc mR_copy) 99 = .ok (.aload_n 0, 1) := o42 (byt_of hR_copy_b1 (j := 3) rfl)
theorem dR_copy_100 : decode (mcc mR_copy) 100 = .ok (.getfield 101, 3) := o180 (a := 0) (b := 101) (byt_of hR_copy_b1 (j := 4) rfl) (byt_of hR_copy_b1 (j := 5) rfl) (byt_of hR_copy_b1 (j := 6) rfl) rfl
theorem dR_copy_103 : decode (mcc mR_copy) 103 = .ok (.iload_n 1, 1) := o27 (byt_of hR_copy_b1 (j := 7) rfl)
theorem dR_copy_104 : decode (mcc mR_copy) 104 = .ok (.iaload, 1) := o46 (byt_of hR_copy_b1 (j := 8) rfl)
theorem dR_copy_105 : decode (mcc mR_copy) 105 = .ok (.iload_n 2, 1) := o28 (byt_of hR_copy_b1 (j := 9) rfl)
theorem dR_copy_106 : decode (mcc mR_copy) 106 = .ok (.isub, 1) := o100 (byt_of hR_copy_b1 (j := 10) rfl)
theorem dR_copy_107 : decode (mcc mR_copy) 107 = .ok (.if_icmp .gt 17, 3) := o163 (a := 0) (b := 17) (byt_of hR_copy_b1 (j := 11) rfl) (byt_of hR_copy_b1 (j := 12) rfl) (byt_of hR_copy_b1 (j := 13) rfl) rfl
theorem dR_copy_110 : decode (mcc mR_copy) 110 = .ok (.iload 5, 2) := o21 (a := 5) (byt_of hR_copy_b1 (j := 14) rfl) (byt_of hR_copy_b1 (j := 15) rfl)
theorem dR_copy_112 : decode (mcc mR_copy) 112 = .ok (.aload_n 0, 1) := o42 (byt_of hR_copy_b1 (j := 16) rfl)
theorem dR_copy_113 : decode (mcc mR_copy) 113 = .ok (.getfield 101, 3) := o180 (a := 0) (b := 101) (byt_of hR_copy_b1 (j := 17) rfl) (byt_of hR_copy_b1 (j := 18) rfl) (byt_of hR_copy_b1 (j := 19) rfl) rfl
theorem dR_copy_116 : decode (mcc mR_copy) 116 = .ok (.iload_n 3, 1) := o29 (byt_of hR_copy_b1 (j := 20) rfl)
theorem dR_copy_117 : decode (mcc mR_copy) 117 = .ok (.iaload, 1) := o46 (byt_of hR_copy_b1 (j := 21) rfl)
theorem dR_copy_118 : decode (mcc mR_copy) 118 = .ok (.iload 4, 2) := o21 (a := 4) (byt_of hR_copy_b1 (j := 22) rfl) (byt_of hR_copy_b1 (j := 23) rfl)
theorem dR_copy_120 : decode (mcc mR_copy) 120 = .ok (.isub, 1) := o100 (byt_of hR_copy_b1 (j := 24) rfl)
theorem dR_copy_121 : decode (mcc mR_copy) 121 = .ok (.if_icmp .le 6, 3) := o164 (a := 0) (b := 6) (byt_of hR_copy_b1 (j := 25) rfl) (byt_of hR_copy_b1 (j := 26) rfl) (byt_of hR_copy_b1 (j := 27) rfl) rfl
theorem dR_copy_124 : decode (mcc mR_copy) 124 = .ok (.bipush (-12), 2) := o16 (a := 244) (byt_of hR_copy_b1 (j := 28) rfl) (byt_of hR_copy_b1 (j := 29) rfl) rfl
theorem dR_copy_126 : decode (mcc mR_copy) 126 = .ok (.ireturn, 1) := o172 (byt_of hR_copy_b1 (j := 30) rfl)
theorem dR_copy_127 : decode (mcc mR_copy) 127 = .ok (.bipush 40, 2) := o16 (a := 40) (byt_of hR_copy_b1 (j := 31) rfl) (byt_of hR_copy_b1 (j := 32) rfl) rfl
theorem dR_copy_129 : decode (mcc mR_copy) 129 = .ok (.iload_n 1, 1) := o27 (byt_of hR_copy_b1 (j := 33) rfl)
theorem dR_copy_130 : decode (mcc mR_copy) 130 = .ok (.imul, 1) := o104 (byt_of hR_copy_b1 (j := 34) rfl)
theorem dR_copy_131 : decode (mcc mR_copy) 131 = .ok (.iload_n 2, 1) := o28 (byt_of hR_copy_b1 (j := 35) rfl)
theorem dR_copy_132 : decode (mcc mR_copy) 132 = .ok (.iadd, 1) := o96 (byt_of hR_copy_b1 (j := 36) rfl)
theorem dR_copy_133 : decode (mcc mR_copy) 133 = .ok (.istore 6, 2) := o54 (a := 6) (byt_of hR_copy_b1 (j := 37) rfl) (byt_of hR_copy_b1 (j := 38) rfl)
theorem dR_copy_135 : decode (mcc mR_copy) 135 = .ok (.bipush 40, 2) := o16 (a := 40) (byt_of hR_copy_b1 (j := 39) rfl) (byt_of hR_copy_b1 (j := 40) rfl) rfl
theorem dR_copy_137 : decode (mcc mR_copy) 137 = .ok (.iload_n 3, 1) := o29 (byt_of hR_copy_b1 (j := 41) rfl)
theorem dR_copy_138 : decode (mcc mR_copy) 138 = .ok (.imul, 1) := o104 (byt_of hR_copy_b1 (j := 42) rfl)
theorem dR_copy_139 : decode (mcc mR_copy) 139 = .ok (.iload 4, 2) := o21 (a := 4) (byt_of hR_copy_b1 (j := 43) rfl) (byt_of hR_copy_b1 (j := 44) rfl)
theorem dR_copy_141 : decode (mcc mR_copy) 141 = .ok (.iadd, 1) := o96 (byt_of hR_copy_b1 (j := 45) rfl)
theorem dR_copy_142 : decode (mcc mR_copy) 142 = .ok (.istore 7, 2) := o54 (a := 7) (byt_of hR_copy_b1 (j := 46) rfl) (byt_of hR_copy_b1 (j := 47) rfl)
theorem dR_copy_144 : decode (mcc mR_copy) 144 = .ok (.iconst 0, 1) := o3 (byt_of hR_copy_b1 (j := 48) rfl)
theorem dR_copy_145 : decode (mcc mR_copy) 145 = .ok (.istore 8, 2) := o54 (a := 8) (byt_of hR_copy_b1 (j := 49) rfl) (byt_of hR_copy_b1 (j := 50) rfl)
theorem dR_copy_147 : decode (mcc mR_copy) 147 = .ok (.iload 8, 2) := o21 (a := 8) (byt_of hR_copy_b1 (j := 51) rfl) (byt_of hR_copy_b1 (j := 52) rfl)
theorem dR_copy_149 : decode (mcc mR_copy) 149 = .ok (.iload 5, 2) := o21 (a := 5) (byt_of hR_copy_b1 (j := 53) rfl) (byt_of hR_copy_b1 (j := 54) rfl)
theorem dR_copy_151 : decode (mcc mR_copy) 151 = .ok (.if_icmp .ge 50, 3) := o162 (a := 0) (b := 50) (byt_of hR_copy_b1 (j := 55) rfl) (byt_of hR_copy_b1 (j := 56) rfl) (byt_of hR_copy_b1 (j := 57) rfl) rfl
theorem dR_copy_154 : decode (mcc mR_copy) 154 = .ok (.iload 6, 2) := o21 (a := 6) (byt_of hR_copy_b1 (j := 58) rfl) (byt_of hR_copy_b1 (j := 59) rfl)
theorem dR_copy_156 : decode (mcc mR_copy) 156 = .ok (.iload 7, 2) := o21 (a := 7) (byt_of hR_copy_b1 (j := 60) rfl) (byt_of hR_copy_b1 (j := 61) rfl)
theorem dR_copy_158 : decode (mcc mR_copy) 158 = .ok (.if_icmp .ge 13, 3) := o162 (a := 0) (b := 13) (byt_of hR_copy_b1 (j := 62) rfl) (byt_of hR_copy_b1 (j := 63) rfl) (byt_of hR_copy_b1 (j := 64) rfl) rfl
theorem dR_copy_161 : decode (mcc mR_copy) 161 = .ok (.iload 5, 2) := o21 (a := 5) (byt_of hR_copy_b1 (j := 65) rfl) (byt_of hR_copy_b1 (j := 66) rfl)
theorem dR_copy_163 : decode (mcc mR_copy) 163 = .ok (.iconst 1, 1) := o4 (byt_of hR_copy_b1 (j := 67) rfl)
theorem dR_copy_164 : decode (mcc mR_copy) 164 = .ok (.isub, 1) := o100 (byt_of hR_copy_b1 (j := 68) rfl)
theorem dR_copy_165 : decode (mcc mR_copy) 165 = .ok (.iload 8, 2) := o21 (a := 8) (byt_of hR_copy_b1 (j := 69) rfl) (byt_of hR_copy_b1 (j := 70) rfl)
theorem dR_copy_167 : decode (mcc mR_copy) 167 = .ok (.isub, 1) := o100 (byt_of hR_copy_b1 (j := 71) rfl)
theorem dR_copy_168 : decode (mcc mR_copy) 168 = .ok (.goto 5, 3) := o167 (a := 0) (b := 5) (byt_of hR_copy_b1 (j := 72) rfl) (byt_of hR_copy_b1 (j := 73) rfl) (byt_of hR_copy_b1 (j := 74) rfl) rfl
theorem dR_copy_171 : decode (mcc mR_copy) 171 = .ok (.iload 8, 2) := o21 (a := 8) (byt_of hR_copy_b1 (j := 75) rfl) (byt_of hR_copy_b1 (j := 76) rfl)
theorem dR_copy_173 : decode (mcc mR_copy) 173 = .ok (.istore 9, 2) := o54 (a := 9) (byt_of hR_copy_b1 (j := 77) rfl) (byt_of hR_copy_b1 (j := 78) rfl)
theorem dR_copy_175 : decode (mcc mR_copy) 175 = .ok (.aload_n 0, 1) := o42 (byt_of hR_copy_b1 (j := 79) rfl)
theorem dR_copy_176 : decode (mcc mR_copy) 176 = .ok (.getfield 104, 3) := o180 (a := 0) (b := 104) (byt_of hR_copy_b1 (j := 80) rfl) (byt_of hR_copy_b1 (j := 81) rfl) (byt_of hR_copy_b1 (j := 82) rfl) rfl
theorem dR_copy_179 : decode (mcc mR_copy) 179 = .ok (.iload 7, 2) := o21 (a := 7) (byt_of hR_copy_b1 (j := 83) rfl) (byt_of hR_copy_b1 (j := 84) rfl)
theorem dR_copy_181 : decode (mcc mR_copy) 181 = .ok (.iload 9, 2) := o21 (a := 9) (byt_of hR_copy_b1 (j := 85) rfl) (byt_of hR_copy_b1 (j := 86) rfl)
theorem dR_copy_183 : decode (mcc mR_copy) 183 = .ok (.iadd, 1) := o96 (byt_of hR_copy_b1 (j := 87) rfl)
theorem dR_copy_184 : decode (mcc mR_copy) 184 = .ok (.aload_n 0, 1) := o42 (byt_of hR_copy_b1 (j := 88) rfl)
theorem dR_copy_185 : decode (mcc mR_copy) 185 = .ok (.getfield 104, 3) := o180 (a := 0) (b := 104) (byt_of hR_copy_b1 (j := 89) rfl) (byt_of hR_copy_b1 (j := 90) rfl) (byt_of hR_copy_b1 (j := 91) rfl) rfl
theorem dR_copy_188 : decode (mcc mR_copy) 188 = .ok (.iload 6, 2) := o21 (a := 6) (byt_of hR_copy_b1 (j := 92) rfl) (byt_of hR_copy_b1 (j := 93) rfl)
theorem dR_copy_190 : decode (mcc mR_copy) 190 = .ok (.iload 9, 2) := o21 (a := 9) (byt_of hR_copy_b1 (j := 94) rfl) (byt_of hR_copy_b1 (j := 95) rfl)
def bR_copy_b2 : List Nat := [96, 46, 79, 132, 8, 1, 167, 255, 205, 21, 5, 172]
theorem hR_copy_b2 : BL (mcc mR_copy) 192 bR_copy_b2 := by decide +kernel
theorem dR_copy_192 : decode (mcc mR_copy) 192 = .ok (.iadd, 1) := o96 (byt_of hR_copy_b2 (j := 0) rfl)
theorem dR_copy_193 : decode (mcc mR_copy) 193 = .ok (.iaload, 1) := o46 (byt_of hR_copy_b2 (j := 1) rfl)
theorem dR_copy_194 : decode (mcc mR_copy) 194 = .ok (.iastore, 1) := o79 (byt_of hR_copy_b2 (j := 2) rfl)
theorem dR_copy_195 : decode (mcc mR_copy) 195 = .ok (.iinc 8 1, 3) := o132 (a := 8) (b := 1) (byt_of hR_copy_b2 (j := 3) rfl) (byt_of hR_copy_b2 (j := 4) rfl) (byt_of hR_copy_b2 (j := 5) rfl) rfl
theorem dR_copy_198 : decode (mcc mR_copy) 198 = .ok (.goto (-51), 3) := o167 (a := 255) (b := 205) (byt_of hR_copy_b2 (j := 6) rfl) (byt_of hR_copy_b2 (j := 7) rfl) (byt_of hR_copy_b2 (j := 8) rfl) rfl
theorem dR_copy_201 : decode (mcc mR_copy) 201 = .ok (.iload 5, 2) := o21 (a := 5) (byt_of hR_copy_b2 (j := 9) rfl) (byt_of hR_copy_b2 (j := 10) rfl)
theorem dR_copy_203 : decode (mcc mR_copy) 203 = .ok (.ireturn, 1) := o172 (byt_of hR_copy_b2 (j := 11) rfl)
def bR_promisesBy_b0 : List Nat := [27, 3, 6, 184, 0, 151, 153, 0, 23, 28, 3, 5, 184, 0, 151, 153, 0, 14, 21, 4, 3, 16, 8, 184, 0, 151, 154, 0, 6, 16, 254, 172, 42, 180, 0, 98, 27, 46, 2, 160, 0, 6, 16, 245, 172, 42, 180, 0, 98, 27, 46, 28, 159, 0, 6, 16, 243, 172, 3, 54, 5, 3, 54, 6, 21, 6, 21, 4, 162, 0, 103, 29, 7, 21, 6, 104, 96, 54, 7, 29, 155, 0, 22, 21, 7, 29, 161, 0, 16, 21, 7, 42, 180, 0, 101, 27, 46, 7, 100, 164, 0, 6]
theorem hR_promisesBy_b0 : BL (mcc mR_promisesBy) 0 bR_promisesBy_b0 := by decide +kernel
theorem dR_promisesBy_0 : decode (mcc mR_promisesBy) 0 = .ok (.iload_n 1, 1) := o27 (byt_of hR_promisesBy_b0 (j := 0) rfl)
theorem dR_promisesBy_1 : decode (mcc mR_promisesBy) 1 = .ok (.iconst 0, 1) := o3 (byt_of hR_promisesBy_b0 (j := 1) rfl)
theorem dR_promisesBy_2 : decode (mcc mR_promisesBy) 2 = .ok (.iconst 3, 1) := o6 (byt_of hR_promisesBy_b0 (j := 2) rfl)
theorem dR_promisesBy_3 : decode (mcc mR_promisesBy) 3 = .ok (.invokestatic 151, 3) := o184 (a := 0) (b := 151) (byt_of hR_promisesBy_b0 (j := 3) rfl) (byt_of hR_promisesBy_b0 (j := 4) rfl) (byt_of hR_promisesBy_b0 (j := 5) rfl) rfl
theorem dR_promisesBy_6 : decode (mcc mR_promisesBy) 6 = .ok (.ifCond .eq 23, 3) := o153 (a := 0) (b := 23) (byt_of hR_promisesBy_b0 (j := 6) rfl) (byt_of hR_promisesBy_b0 (j := 7) rfl) (byt_of hR_promisesBy_b0 (j := 8) rfl) rfl
theorem dR_promisesBy_9 : decode (mcc mR_promisesBy) 9 = .ok (.iload_n 2, 1) := o28 (byt_of hR_promisesBy_b0 (j := 9) rfl)
theorem dR_promisesBy_10 : decode (mcc mR_promisesBy) 10 = .ok (.iconst 0, 1) := o3 (byt_of hR_promisesBy_b0 (j := 10) rfl)
theorem dR_promisesBy_11 : decode (mcc mR_promisesBy) 11 = .ok (.iconst 2, 1) := o5 (byt_of hR_promisesBy_b0 (j := 11) rfl)
theorem dR_promisesBy_12 : decode (mcc mR_promisesBy) 12 = .ok (.invokestatic 151, 3) := o184 (a := 0) (b := 151) (byt_of hR_promisesBy_b0 (j := 12) rfl) (byt_of hR_promisesBy_b0 (j := 13) rfl) (byt_of hR_promisesBy_b0 (j := 14) rfl) rfl
theorem dR_promisesBy_15 : decode (mcc mR_promisesBy) 15 = .ok (.ifCond .eq 14, 3) := o153 (a := 0) (b := 14) (byt_of hR_promisesBy_b0 (j := 15) rfl) (byt_of hR_promisesBy_b0 (j := 16) rfl) (byt_of hR_promisesBy_b0 (j := 17) rfl) rfl
theorem dR_promisesBy_18 : decode (mcc mR_promisesBy) 18 = .ok (.iload 4, 2) := o21 (a := 4) (byt_of hR_promisesBy_b0 (j := 18) rfl) (byt_of hR_promisesBy_b0 (j := 19) rfl)
theorem dR_promisesBy_20 : decode (mcc mR_promisesBy) 20 = .ok (.iconst 0, 1) := o3 (byt_of hR_promisesBy_b0 (j := 20) rfl)
theorem dR_promisesBy_21 : decode (mcc mR_promisesBy) 21 = .ok (.bipush 8, 2) := o16 (a := 8) (byt_of hR_promisesBy_b0 (j := 21) rfl) (byt_of hR_promisesBy_b0 (j := 22) rfl) rfl
theorem dR_promisesBy_23 : decode (mcc mR_promisesBy) 23 = .ok (.invokestatic 151, 3) := o184 (a := 0) (b := 151) (byt_of hR_promisesBy_b0 (j := 23) rfl) (byt_of hR_promisesBy_b0 (j := 24) rfl) (byt_of hR_promisesBy_b0 (j := 25) rfl) rfl
theorem dR_promisesBy_26 : decode (mcc mR_promisesBy) 26 = .ok (.ifCond .ne 6, 3) := o154 (a := 0) (b := 6) (byt_of hR_promisesBy_b0 (j := 26) rfl) (byt_of hR_promisesBy_b0 (j := 27) rfl) (byt_of hR_promisesBy_b0 (j := 28) rfl) rfl
theorem dR_promisesBy_29 : decode (mcc mR_promisesBy) 29 = .ok (.bipush (-2), 2) := o16 (a := 254) (byt_of hR_promisesBy_b0 (j := 29) rfl) (byt_of hR_promisesBy_b0 (j := 30) rfl) rfl
theorem dR_promisesBy_31 : decode (mcc mR_promisesBy) 31 = .ok (.ireturn, 1) := o172 (byt_of hR_promisesBy_b0 (j := 31) rfl)
theorem dR_promisesBy_32 : decode (mcc mR_promisesBy) 32 = .ok (.aload_n 0, 1) := o42 (byt_of hR_promisesBy_b0 (j := 32) rfl)
theorem dR_promisesBy_33 : decode (mcc mR_promisesBy) 33 = .ok (.getfield 98, 3) := o180 (a := 0) (b := 98) (byt_of hR_promisesBy_b0 (j := 33) rfl) (byt_of hR_promisesBy_b0 (j := 34) rfl) (byt_of hR_promisesBy_b0 (j := 35) rfl) rfl
theorem dR_promisesBy_36 : decode (mcc mR_promisesBy) 36 = .ok (.iload_n 1, 1) := o27 (byt_of hR_promisesBy_b0 (j := 36) rfl)
theorem dR_promisesBy_37 : decode (mcc mR_promisesBy) 37 = .ok (.iaload, 1) := o46 (byt_of hR_promisesBy_b0 (j := 37) rfl)
theorem dR_promisesBy_38 : decode (mcc mR_promisesBy) 38 = .ok (.iconst (-1), 1) := o2 (byt_of hR_promisesBy_b0 (j := 38) rfl)
theorem dR_promisesBy_39 : decode (mcc mR_promisesBy) 39 = .ok (.if_icmp .ne 6, 3) := o160 (a := 0) (b := 6) (byt_of hR_promisesBy_b0 (j := 39) rfl) (byt_of hR_promisesBy_b0 (j := 40) rfl) (byt_of hR_promisesBy_b0 (j := 41) rfl) rfl
theorem dR_promisesBy_42 : decode (mcc mR_promisesBy) 42 = .ok (.bipush (-11), 2) := o16 (a := 245) (byt_of hR_promisesBy_b0 (j := 42) rfl) (byt_of hR_promisesBy_b0 (j := 43) rfl) rfl
theorem dR_promisesBy_44 : decode (mcc mR_promisesBy) 44 = .ok (.ireturn, 1) := o172 (byt_of hR_promisesBy_b0 (j := 44) rfl)
theorem dR_promisesBy_45 : decode (mcc mR_promisesBy) 45 = .ok (.aload_n 0, 1) := o42 (byt_of hR_promisesBy_b0 (j := 45) rfl)
theorem dR_promisesBy_46 : decode (mcc mR_promisesBy) 46 = .ok (.getfield 98, 3) := o180 (a := 0) (b := 98) (byt_of hR_promisesBy_b0 (j := 46) rfl) (byt_of hR_promisesBy_b0 (j := 47) rfl) (byt_of hR_promisesBy_b0 (j := 48) rfl) rfl
theorem dR_promisesBy_49 : decode (mcc mR_promisesBy) 49 = .ok (.iload_n 1, 1) := o27 (byt_of hR_promisesBy_b0 (j := 49) rfl)
theorem dR_promisesBy_50 : decode (mcc mR_promisesBy) 50 = .ok (.iaload, 1) := o46 (byt_of hR_promisesBy_b0 (j := 50) rfl)
theorem dR_promisesBy_51 : decode (mcc mR_promisesBy) 51 = .ok (.iload_n 2, 1) := o28 (byt_of hR_promisesBy_b0 (j := 51) rfl)
theorem dR_promisesBy_52 : decode (mcc mR_promisesBy) 52 = .ok (.if_icmp .eq 6, 3) := o159 (a := 0) (b := 6) (byt_of hR_promisesBy_b0 (j := 52) rfl) (byt_of hR_promisesBy_b0 (j := 53) rfl) (byt_of hR_promisesBy_b0 (j := 54) rfl) rfl
theorem dR_promisesBy_55 : decode (mcc mR_promisesBy) 55 = .ok (.bipush (-13), 2) := o16 (a := 243) (byt_of hR_promisesBy_b0 (j := 55) rfl) (byt_of hR_promisesBy_b0 (j := 56) rfl) rfl
theorem dR_promisesBy_57 : decode (mcc mR_promisesBy) 57 = .ok (.ireturn, 1) := o172 (byt_of hR_promisesBy_b0 (j := 57) rfl)
theorem dR_promisesBy_58 : decode (mcc mR_promisesBy) 58 = .ok (.iconst 0, 1) := o3 (byt_of hR_promisesBy_b0 (j := 58) rfl)
theorem dR_promisesBy_59 : decode (mcc mR_promisesBy) 59 = .ok (.istore 5, 2) := o54 (a := 5) (byt_of hR_promisesBy_b0 (j := 59) rfl) (byt_of hR_promisesBy_b0 (j := 60) rfl)
theorem dR_promisesBy_61 : decode (mcc mR_promisesBy) 61 = .ok (.iconst 0, 1) := o3 (byt_of hR_promisesBy_b0 (j := 61) rfl)
theorem dR_promisesBy_62 : decode (mcc mR_promisesBy) 62 = .ok (.istore 6, 2) := o54 (a := 6) (byt_of hR_promisesBy_b0 (j := 62) rfl) (byt_of hR_promisesBy_b0 (j := 63) rfl)
theorem dR_promisesBy_64 : decode (mcc mR_promisesBy) 64 = .ok (.iload 6, 2) := o21 (a := 6) (byt_of hR_promisesBy_b0 (j := 64) rfl) (byt_of hR_promisesBy_b0 (j := 65) rfl)
theorem dR_promisesBy_66 : decode (mcc mR_promisesBy) 66 = .ok (.iload 4, 2) := o21 (a := 4) (byt_of hR_promisesBy_b0 (j := 66) rfl) (byt_of hR_promisesBy_b0 (j := 67) rfl)
theorem dR_promisesBy_68 : decode (mcc mR_promisesBy) 68 = .ok (.if_icmp .ge 103, 3) := o162 (a := 0) (b := 103) (byt_of hR_promisesBy_b0 (j := 68) rfl) (byt_of hR_promisesBy_b0 (j := 69) rfl) (byt_of hR_promisesBy_b0 (j := 70) rfl) rfl
theorem dR_promisesBy_71 : decode (mcc mR_promisesBy) 71 = .ok (.iload_n 3, 1) := o29 (byt_of hR_promisesBy_b0 (j := 71) rfl)
theorem dR_promisesBy_72 : decode (mcc mR_promisesBy) 72 = .ok (.iconst 4, 1) := o7 (byt_of hR_promisesBy_b0 (j := 72) rfl)
theorem dR_promisesBy_73 : decode (mcc mR_promisesBy) 73 = .ok (.iload 6, 2) := o21 (a := 6) (byt_of hR_promisesBy_b0 (j := 73) rfl) (byt_of hR_promisesBy_b0 (j := 74) rfl)
theorem dR_promisesBy_75 : decode (mcc mR_promisesBy) 75 = .ok (.imul, 1) := o104 (byt_of hR_promisesBy_b0 (j := 75) rfl)
theorem dR_promisesBy_76 : decode (mcc mR_promisesBy) 76 = .ok (.iadd, 1) := o96 (byt_of hR_promisesBy_b0 (j := 76) rfl)
theorem dR_promisesBy_77 : decode (mcc mR_promisesBy) 77 = .ok (.istore 7, 2) := o54 (a := 7) (byt_of hR_promisesBy_b0 (j := 77) rfl) (byt_of hR_promisesBy_b0 (j := 78) rfl)
theorem dR_promisesBy_79 : decode (mcc mR_promisesBy) 79 = .ok (.iload_n 3, 1) := o29 (byt_of hR_promisesBy_b0 (j := 79) rfl)
theorem dR_promisesBy_80 : decode (mcc mR_promisesBy) 80 = .ok (.ifCond .lt 22, 3) := o155 (a := 0) (b := 22) (byt_of hR_promisesBy_b0 (j := 80) rfl) (byt_of hR_promisesBy_b0 (j := 81) rfl) (byt_of hR_promisesBy_b0 (j := 82) rfl) rfl
theorem dR_promisesBy_83 : decode (mcc mR_promisesBy) 83 = .ok (.iload 7, 2) := o21 (a := 7) (byt_of hR_promisesBy_b0 (j := 83) rfl) (byt_of hR_promisesBy_b0 (j := 84) rfl)
theorem dR_promisesBy_85 : decode (mcc mR_promisesBy) 85 = .ok (.iload_n 3, 1) := o29 (byt_of hR_promisesBy_b0 (j := 85) rfl)
theorem dR_promisesBy_86 : decode (mcc mR_promisesBy) 86 = .ok (.if_icmp .lt 16, 3) := o161 (a := 0) (b := 16) (byt_of hR_promisesBy_b0 (j := 86) rfl) (byt_of hR_promisesBy_b0 (j := 87) rfl) (byt_of hR_promisesBy_b0 (j := 88) rfl) rfl
theorem dR_promisesBy_89 : decode (mcc mR_promisesBy) 89 = .ok (.iload 7, 2) := o21 (a := 7) (byt_of hR_promisesBy_b0 (j := 89) rfl) (byt_of hR_promisesBy_b0 (j := 90) rfl)
theorem dR_promisesBy_91 : decode (mcc mR_promisesBy) 91 = .ok (.aload_n 0, 1) := o42 (byt_of hR_promisesBy_b0 (j := 91) rfl)
theorem dR_promisesBy_92 : decode (mcc mR_promisesBy) 92 = .ok (.getfield 101, 3) := o180 (a := 0) (b := 101) (byt_of hR_promisesBy_b0 (j := 92) rfl) (byt_of hR_promisesBy_b0 (j := 93) rfl) (byt_of hR_promisesBy_b0 (j := 94) rfl) rfl
theorem dR_promisesBy_95 : decode (mcc mR_promisesBy) 95 = .ok (.iload_n 1, 1) := o27 (byt_of hR_promisesBy_b0 (j := 95) rfl)
def bR_promisesBy_b1 : List Nat := [46, 7, 100, 164, 0, 6, 16, 244, 172, 16, 40, 27, 104, 21, 7, 96, 54, 8, 21, 5, 42, 42, 180, 0, 104, 21, 8, 46, 42, 180, 0, 104, 21, 8, 4, 96, 46, 42, 180, 0, 104, 21, 8, 5, 96, 46, 42, 180, 0, 104, 21, 8, 6, 96, 46, 182, 1, 120, 155, 0, 7, 4, 167, 0, 4, 3, 96, 54, 5, 132, 6, 1, 167, 255, 152, 21, 5, 172]
theorem hR_promisesBy_b1 : BL (mcc mR_promisesBy) 96 bR_promisesBy_b1 := by decide +kernel
theorem dR_promisesBy_96 : decode (mcc mR_promisesBy) 96 = .ok (.iaload, 1) := o46 (byt_of hR_promisesBy_b1 (j := 0) rfl)
theorem dR_promisesBy_97 : decode (mcc mR_promisesBy) 97 = .ok (.iconst 4, 1) := o7 (byt_of hR_promisesBy_b1 (j := 1) rfl)
theorem dR_promisesBy_98 : decode (mcc mR_promisesBy) 98 = .ok (.isub, 1) := o100 (byt_of hR_promisesBy_b1 (j := 2) rfl)
theorem dR_promisesBy_99 : decode (mcc mR_promisesBy) 99 = .ok (.if_icmp .le 6, 3) := o164 (a := 0) (b := 6) (byt_of hR_promisesBy_b1 (j := 3) rfl) (byt_of hR_promisesBy_b1 (j := 4) rfl) (byt_of hR_promisesBy_b1 (j := 5) rfl) rfl
theorem dR_promisesBy_102 : decode (mcc mR_promisesBy) 102 = .ok (.bipush (-12), 2) := o16 (a := 244) (byt_of hR_promisesBy_b1 (j := 6) rfl) (byt_of hR_promisesBy_b1 (j := 7) rfl) rfl
theorem dR_promisesBy_104 : decode (mcc mR_promisesBy) 104 = .ok (.ireturn, 1) := o172 (byt_of hR_promisesBy_b1 (j := 8) rfl)
theorem dR_promisesBy_105 : decode (mcc mR_promisesBy) 105 = .ok (.bipush 40, 2) := o16 (a := 40) (byt_of hR_promisesBy_b1 (j := 9) rfl) (byt_of hR_promisesBy_b1 (j := 10) rfl) rfl
theorem dR_promisesBy_107 : decode (mcc mR_promisesBy) 107 = .ok (.iload_n 1, 1) := o27 (byt_of hR_promisesBy_b1 (j := 11) rfl)
theorem dR_promisesBy_108 : decode (mcc mR_promisesBy) 108 = .ok (.imul, 1) := o104 (byt_of hR_promisesBy_b1 (j := 12) rfl)
theorem dR_promisesBy_109 : decode (mcc mR_promisesBy) 109 = .ok (.iload 7, 2) := o21 (a := 7) (byt_of hR_promisesBy_b1 (j := 13) rfl) (byt_of hR_promisesBy_b1 (j := 14) rfl)
theorem dR_promisesBy_111 : decode (mcc mR_promisesBy) 111 = .ok (.iadd, 1) := o96 (byt_of hR_promisesBy_b1 (j := 15) rfl)
theorem dR_promisesBy_112 : decode (mcc mR_promisesBy) 112 = .ok (.istore 8, 2) := o54 (a := 8) (byt_of hR_promisesBy_b1 (j := 16) rfl) (byt_of hR_promisesBy_b1 (j := 17) rfl)
theorem dR_promisesBy_114 : decode (mcc mR_promisesBy) 114 = .ok (.iload 5, 2) := o21 (a := 5) (byt_of hR_promisesBy_b1 (j := 18) rfl) (byt_of hR_promisesBy_b1 (j := 19) rfl)
theorem dR_promisesBy_116 : decode (mcc mR_promisesBy) 116 = .ok (.aload_n 0, 1) := o42 (byt_of hR_promisesBy_b1 (j := 20) rfl)
theorem dR_promisesBy_117 : decode (mcc mR_promisesBy) 117 = .ok (.aload_n 0, 1) := o42 (byt_of hR_promisesBy_b1 (j := 21) rfl)
theorem dR_promisesBy_118 : decode (mcc mR_promisesBy) 118 = .ok (.getfield 104, 3) := o180 (a := 0) (b := 104) (byt_of hR_promisesBy_b1 (j := 22) rfl) (byt_of hR_promisesBy_b1 (j := 23) rfl) (byt_of hR_promisesBy_b1 (j := 24) rfl) rfl
theorem dR_promisesBy_121 : decode (mcc mR_promisesBy) 121 = .ok (.iload 8, 2) := o21 (a := 8) (byt_of hR_promisesBy_b1 (j := 25) rfl) (byt_of hR_promisesBy_b1 (j := 26) rfl)
theorem dR_promisesBy_123 : decode (mcc mR_promisesBy) 123 = .ok (.iaload, 1) := o46 (byt_of hR_promisesBy_b1 (j := 27) rfl)
theorem dR_promisesBy_124 : decode (mcc mR_promisesBy) 124 = .ok (.aload_n 0, 1) := o42 (byt_of hR_promisesBy_b1 (j := 28) rfl)
theorem dR_promisesBy_125 : decode (mcc mR_promisesBy) 125 = .ok (.getfield 104, 3) := o180 (a := 0) (b := 104) (byt_of hR_promisesBy_b1 (j := 29) rfl) (byt_of hR_promisesBy_b1 (j := 30) rfl) (byt_of hR_promisesBy_b1 (j := 31) rfl) rfl
theorem dR_promisesBy_128 : decode (mcc mR_promisesBy) 128 = .ok (.iload 8, 2) := o21 (a := 8) (byt_of hR_promisesBy_b1 (j := 32) rfl) (byt_of hR_promisesBy_b1 (j := 33) rfl)
theorem dR_promisesBy_130 : decode (mcc mR_promisesBy) 130 = .ok (.iconst 1, 1) := o4 (byt_of hR_promisesBy_b1 (j := 34) rfl)
theorem dR_promisesBy_131 : decode (mcc mR_promisesBy) 131 = .ok (.iadd, 1) := o96 (byt_of hR_promisesBy_b1 (j := 35) rfl)
theorem dR_promisesBy_132 : decode (mcc mR_promisesBy) 132 = .ok (.iaload, 1) := o46 (byt_of hR_promisesBy_b1 (j := 36) rfl)
theorem dR_promisesBy_133 : decode (mcc mR_promisesBy) 133 = .ok (.aload_n 0, 1) := o42 (byt_of hR_promisesBy_b1 (j := 37) rfl)
theorem dR_promisesBy_134 : decode (mcc mR_promisesBy) 134 = .ok (.getfield 104, 3) := o180 (a := 0) (b := 104) (byt_of hR_promisesBy_b1 (j := 38) rfl) (byt_of hR_promisesBy_b1 (j := 39) rfl) (byt_of hR_promisesBy_b1 (j := 40) rfl) rfl
theorem dR_promisesBy_137 : decode (mcc mR_promisesBy) 137 = .ok (.iload 8, 2) := o21 (a := 8) (byt_of hR_promisesBy_b1 (j := 41) rfl) (byt_of hR_promisesBy_b1 (j := 42) rfl)
theorem dR_promisesBy_139 : decode (mcc mR_promisesBy) 139 = .ok (.iconst 2, 1) := o5 (byt_of hR_promisesBy_b1 (j := 43) rfl)
theorem dR_promisesBy_140 : decode (mcc mR_promisesBy) 140 = .ok (.iadd, 1) := o96 (byt_of hR_promisesBy_b1 (j := 44) rfl)
theorem dR_promisesBy_141 : decode (mcc mR_promisesBy) 141 = .ok (.iaload, 1) := o46 (byt_of hR_promisesBy_b1 (j := 45) rfl)
theorem dR_promisesBy_142 : decode (mcc mR_promisesBy) 142 = .ok (.aload_n 0, 1) := o42 (byt_of hR_promisesBy_b1 (j := 46) rfl)
theorem dR_promisesBy_143 : decode (mcc mR_promisesBy) 143 = .ok (.getfield 104, 3) := o180 (a := 0) (b := 104) (byt_of hR_promisesBy_b1 (j := 47) rfl) (byt_of hR_promisesBy_b1 (j := 48) rfl) (byt_of hR_promisesBy_b1 (j := 49) rfl) rfl
theorem dR_promisesBy_146 : decode (mcc mR_promisesBy) 146 = .ok (.iload 8, 2) := o21 (a := 8) (byt_of hR_promisesBy_b1 (j := 50) rfl) (byt_of hR_promisesBy_b1 (j := 51) rfl)
theorem dR_promisesBy_148 : decode (mcc mR_promisesBy) 148 = .ok (.iconst 3, 1) := o6 (byt_of hR_promisesBy_b1 (j := 52) rfl)
theorem dR_promisesBy_149 : decode (mcc mR_promisesBy) 149 = .ok (.iadd, 1) := o96 (byt_of hR_promisesBy_b1 (j := 53) rfl)
theorem dR_promisesBy_150 : decode (mcc mR_promisesBy) 150 = .ok (.iaload, 1) := o46 (byt_of hR_promisesBy_b1 (j := 54) rfl)
theorem dR_promisesBy_151 : decode (mcc mR_promisesBy) 151 = .ok (.invokevirtual 376, 3) := o182 (a := 1) (b := 120) (byt_of hR_promisesBy_b1 (j := 55) rfl) (byt_of hR_promisesBy_b1 (j := 56) rfl) (byt_of hR_promisesBy_b1 (j := 57) rfl) rfl
theorem dR_promisesBy_154 : decode (mcc mR_promisesBy) 154 = .ok (.ifCond .lt 7, 3) := o155 (a := 0) (b := 7) (byt_of hR_promisesBy_b1 (j := 58) rfl) (byt_of hR_promisesBy_b1 (j := 59) rfl) (byt_of hR_promisesBy_b1 (j := 60) rfl) rfl
theorem dR_promisesBy_157 : decode (mcc mR_promisesBy) 157 = .ok (.iconst 1, 1) := o4 (byt_of hR_promisesBy_b1 (j := 61) rfl)
theorem dR_promisesBy_158 : decode (mcc mR_promisesBy) 158 = .ok (.goto 4, 3) := o167 (a := 0) (b := 4) (byt_of hR_promisesBy_b1 (j := 62) rfl) (byt_of hR_promisesBy_b1 (j := 63) rfl) (byt_of hR_promisesBy_b1 (j := 64) rfl) rfl
theorem dR_promisesBy_161 : decode (mcc mR_promisesBy) 161 = .ok (.iconst 0, 1) := o3 (byt_of hR_promisesBy_b1 (j := 65) rfl)
theorem dR_promisesBy_162 : decode (mcc mR_promisesBy) 162 = .ok (.iadd, 1) := o96 (byt_of hR_promisesBy_b1 (j := 66) rfl)
theorem dR_promisesBy_163 : decode (mcc mR_promisesBy) 163 = .ok (.istore 5, 2) := o54 (a := 5) (byt_of hR_promisesBy_b1 (j := 67) rfl) (byt_of hR_promisesBy_b1 (j := 68) rfl)
theorem dR_promisesBy_165 : decode (mcc mR_promisesBy) 165 = .ok (.iinc 6 1, 3) := o132 (a := 6) (b := 1) (byt_of hR_promisesBy_b1 (j := 69) rfl) (byt_of hR_promisesBy_b1 (j := 70) rfl) (byt_of hR_promisesBy_b1 (j := 71) rfl) rfl
theorem dR_promisesBy_168 : decode (mcc mR_promisesBy) 168 = .ok (.goto (-104), 3) := o167 (a := 255) (b := 152) (byt_of hR_promisesBy_b1 (j := 72) rfl) (byt_of hR_promisesBy_b1 (j := 73) rfl) (byt_of hR_promisesBy_b1 (j := 74) rfl) rfl
theorem dR_promisesBy_171 : decode (mcc mR_promisesBy) 171 = .ok (.iload 5, 2) := o21 (a := 5) (byt_of hR_promisesBy_b1 (j := 75) rfl) (byt_of hR_promisesBy_b1 (j := 76) rfl)
theorem dR_promisesBy_173 : decode (mcc mR_promisesBy) 173 = .ok (.ireturn, 1) := o172 (byt_of hR_promisesBy_b1 (j := 77) rfl)
def bR_isUnder_b0 : List Nat := [27, 153, 0, 23, 26, 27, 159, 0, 18, 27, 4, 160, 0, 17, 26, 6, 159, 0, 8, 26, 8, 160, 0, 7, 4, 167, 0, 4, 3, 172]
theorem hR_isUnder_b0 : BL (mcc mR_isUnder) 0 bR_isUnder_b0 := by decide +kernel
theorem dR_isUnder_0 : decode (mcc mR_isUnder) 0 = .ok (.iload_n 1, 1) := o27 (byt_of hR_isUnder_b0 (j := 0) rfl)
theorem dR_isUnder_1 : decode (mcc mR_isUnder) 1 = .ok (.ifCond .eq 23, 3) := o153 (a := 0) (b := 23) (byt_of hR_isUnder_b0 (j := 1) rfl) (byt_of hR_isUnder_b0 (j := 2) rfl) (byt_of hR_isUnder_b0 (j := 3) rfl) rfl
theorem dR_isUnder_4 : decode (mcc mR_isUnder) 4 = .ok (.iload_n 0, 1) := o26 (byt_of hR_isUnder_b0 (j := 4) rfl)
theorem dR_isUnder_5 : decode (mcc mR_isUnder) 5 = .ok (.iload_n 1, 1) := o27 (byt_of hR_isUnder_b0 (j := 5) rfl)
theorem dR_isUnder_6 : decode (mcc mR_isUnder) 6 = .ok (.if_icmp .eq 18, 3) := o159 (a := 0) (b := 18) (byt_of hR_isUnder_b0 (j := 6) rfl) (byt_of hR_isUnder_b0 (j := 7) rfl) (byt_of hR_isUnder_b0 (j := 8) rfl) rfl
theorem dR_isUnder_9 : decode (mcc mR_isUnder) 9 = .ok (.iload_n 1, 1) := o27 (byt_of hR_isUnder_b0 (j := 9) rfl)
theorem dR_isUnder_10 : decode (mcc mR_isUnder) 10 = .ok (.iconst 1, 1) := o4 (byt_of hR_isUnder_b0 (j := 10) rfl)
theorem dR_isUnder_11 : decode (mcc mR_isUnder) 11 = .ok (.if_icmp .ne 17, 3) := o160 (a := 0) (b := 17) (byt_of hR_isUnder_b0 (j := 11) rfl) (byt_of hR_isUnder_b0 (j := 12) rfl) (byt_of hR_isUnder_b0 (j := 13) rfl) rfl
theorem dR_isUnder_14 : decode (mcc mR_isUnder) 14 = .ok (.iload_n 0, 1) := o26 (byt_of hR_isUnder_b0 (j := 14) rfl)
theorem dR_isUnder_15 : decode (mcc mR_isUnder) 15 = .ok (.iconst 3, 1) := o6 (byt_of hR_isUnder_b0 (j := 15) rfl)
theorem dR_isUnder_16 : decode (mcc mR_isUnder) 16 = .ok (.if_icmp .eq 8, 3) := o159 (a := 0) (b := 8) (byt_of hR_isUnder_b0 (j := 16) rfl) (byt_of hR_isUnder_b0 (j := 17) rfl) (byt_of hR_isUnder_b0 (j := 18) rfl) rfl
theorem dR_isUnder_19 : decode (mcc mR_isUnder) 19 = .ok (.iload_n 0, 1) := o26 (byt_of hR_isUnder_b0 (j := 19) rfl)
theorem dR_isUnder_20 : decode (mcc mR_isUnder) 20 = .ok (.iconst 5, 1) := o8 (byt_of hR_isUnder_b0 (j := 20) rfl)
theorem dR_isUnder_21 : decode (mcc mR_isUnder) 21 = .ok (.if_icmp .ne 7, 3) := o160 (a := 0) (b := 7) (byt_of hR_isUnder_b0 (j := 21) rfl) (byt_of hR_isUnder_b0 (j := 22) rfl) (byt_of hR_isUnder_b0 (j := 23) rfl) rfl
theorem dR_isUnder_24 : decode (mcc mR_isUnder) 24 = .ok (.iconst 1, 1) := o4 (byt_of hR_isUnder_b0 (j := 24) rfl)
theorem dR_isUnder_25 : decode (mcc mR_isUnder) 25 = .ok (.goto 4, 3) := o167 (a := 0) (b := 4) (byt_of hR_isUnder_b0 (j := 25) rfl) (byt_of hR_isUnder_b0 (j := 26) rfl) (byt_of hR_isUnder_b0 (j := 27) rfl) rfl
theorem dR_isUnder_28 : decode (mcc mR_isUnder) 28 = .ok (.iconst 0, 1) := o3 (byt_of hR_isUnder_b0 (j := 28) rfl)
theorem dR_isUnder_29 : decode (mcc mR_isUnder) 29 = .ok (.ireturn, 1) := o172 (byt_of hR_isUnder_b0 (j := 29) rfl)
def bR_taken_b0 : List Nat := [28, 3, 16, 6, 184, 0, 151, 154, 0, 6, 16, 254, 172, 27, 3, 16, 15, 184, 0, 151, 154, 0, 6, 16, 244, 172, 27, 16, 8, 162, 0, 34, 27, 42, 180, 0, 155, 161, 0, 8, 16, 245, 167, 0, 20, 28, 16, 6, 160, 0, 12, 42, 180, 0, 47, 27, 46, 167, 0, 5, 16, 243, 172, 27, 16, 8, 100, 42, 180, 0, 148, 161, 0, 8, 16, 245, 167, 0, 34, 28, 16, 6, 162, 0, 26, 42, 180, 0, 20, 27, 16, 8, 100, 46, 28, 184, 1, 124, 153, 0, 10, 27]
theorem hR_taken_b0 : BL (mcc mR_taken) 0 bR_taken_b0 := by decide +kernel
theorem dR_taken_0 : decode (mcc mR_taken) 0 = .ok (.iload_n 2, 1) := o28 (byt_of hR_taken_b0 (j := 0) rfl)
theorem dR_taken_1 : decode (mcc mR_taken) 1 = .ok (.iconst 0, 1) := o3 (byt_of hR_taken_b0 (j := 1) rfl)
theorem dR_taken_2 : decode (mcc mR_taken) 2 = .ok (.bipush 6, 2) := o16 (a := 6) (byt_of hR_taken_b0 (j := 2) rfl) (byt_of hR_taken_b0 (j := 3) rfl) rfl
theorem dR_taken_4 : decode (mcc mR_taken) 4 = .ok (.invokestatic 151, 3) := o184 (a := 0) (b := 151) (byt_of hR_taken_b0 (j := 4) rfl) (byt_of hR_taken_b0 (j := 5) rfl) (byt_of hR_taken_b0 (j := 6) rfl) rfl
theorem dR_taken_7 : decode (mcc mR_taken) 7 = .ok (.ifCond .ne 6, 3) := o154 (a := 0) (b := 6) (byt_of hR_taken_b0 (j := 7) rfl) (byt_of hR_taken_b0 (j := 8) rfl) (byt_of hR_taken_b0 (j := 9) rfl) rfl
theorem dR_taken_10 : decode (mcc mR_taken) 10 = .ok (.bipush (-2), 2) := o16 (a := 254) (byt_of hR_taken_b0 (j := 10) rfl) (byt_of hR_taken_b0 (j := 11) rfl) rfl
theorem dR_taken_12 : decode (mcc mR_taken) 12 = .ok (.ireturn, 1) := o172 (byt_of hR_taken_b0 (j := 12) rfl)
theorem dR_taken_13 : decode (mcc mR_taken) 13 = .ok (.iload_n 1, 1) := o27 (byt_of hR_taken_b0 (j := 13) rfl)
theorem dR_taken_14 : decode (mcc mR_taken) 14 = .ok (.iconst 0, 1) := o3 (byt_of hR_taken_b0 (j := 14) rfl)
theorem dR_taken_15 : decode (mcc mR_taken) 15 = .ok (.bipush 15, 2) := o16 (a := 15) (byt_of hR_taken_b0 (j := 15) rfl) (byt_of hR_taken_b0 (j := 16) rfl) rfl
theorem dR_taken_17 : decode (mcc mR_taken) 17 = .ok (.invokestatic 151, 3) := o184 (a := 0) (b := 151) (byt_of hR_taken_b0 (j := 17) rfl) (byt_of hR_taken_b0 (j := 18) rfl) (byt_of hR_taken_b0 (j := 19) rfl) rfl
theorem dR_taken_20 : decode (mcc mR_taken) 20 = .ok (.ifCond .ne 6, 3) := o154 (a := 0) (b := 6) (byt_of hR_taken_b0 (j := 20) rfl) (byt_of hR_taken_b0 (j := 21) rfl) (byt_of hR_taken_b0 (j := 22) rfl) rfl
theorem dR_taken_23 : decode (mcc mR_taken) 23 = .ok (.bipush (-12), 2) := o16 (a := 244) (byt_of hR_taken_b0 (j := 23) rfl) (byt_of hR_taken_b0 (j := 24) rfl) rfl
theorem dR_taken_25 : decode (mcc mR_taken) 25 = .ok (.ireturn, 1) := o172 (byt_of hR_taken_b0 (j := 25) rfl)
theorem dR_taken_26 : decode (mcc mR_taken) 26 = .ok (.iload_n 1, 1) := o27 (byt_of hR_taken_b0 (j := 26) rfl)
theorem dR_taken_27 : decode (mcc mR_taken) 27 = .ok (.bipush 8, 2) := o16 (a := 8) (byt_of hR_taken_b0 (j := 27) rfl) (byt_of hR_taken_b0 (j := 28) rfl) rfl
theorem dR_taken_29 : decode (mcc mR_taken) 29 = .ok (.if_icmp .ge 34, 3) := o162 (a := 0) (b := 34) (byt_of hR_taken_b0 (j := 29) rfl) (byt_of hR_taken_b0 (j := 30) rfl) (byt_of hR_taken_b0 (j := 31) rfl) rfl
theorem dR_taken_32 : decode (mcc mR_taken) 32 = .ok (.iload_n 1, 1) := o27 (byt_of hR_taken_b0 (j := 32) rfl)
theorem dR_taken_33 : decode (mcc mR_taken) 33 = .ok (.aload_n 0, 1) := o42 (byt_of hR_taken_b0 (j := 33) rfl)
theorem dR_taken_34 : decode (mcc mR_taken) 34 = .ok (.getfield 155, 3) := o180 (a := 0) (b := 155) (byt_of hR_taken_b0 (j := 34) rfl) (byt_of hR_taken_b0 (j := 35) rfl) (byt_of hR_taken_b0 (j := 36) rfl) rfl
theorem dR_taken_37 : decode (mcc mR_taken) 37 = .ok (.if_icmp .lt 8, 3) := o161 (a := 0) (b := 8) (byt_of hR_taken_b0 (j := 37) rfl) (byt_of hR_taken_b0 (j := 38) rfl) (byt_of hR_taken_b0 (j := 39) rfl) rfl
theorem dR_taken_40 : decode (mcc mR_taken) 40 = .ok (.bipush (-11), 2) := o16 (a := 245) (byt_of hR_taken_b0 (j := 40) rfl) (byt_of hR_taken_b0 (j := 41) rfl) rfl
theorem dR_taken_42 : decode (mcc mR_taken) 42 = .ok (.goto 20, 3) := o167 (a := 0) (b := 20) (byt_of hR_taken_b0 (j := 42) rfl) (byt_of hR_taken_b0 (j := 43) rfl) (byt_of hR_taken_b0 (j := 44) rfl) rfl
theorem dR_taken_45 : decode (mcc mR_taken) 45 = .ok (.iload_n 2, 1) := o28 (byt_of hR_taken_b0 (j := 45) rfl)
theorem dR_taken_46 : decode (mcc mR_taken) 46 = .ok (.bipush 6, 2) := o16 (a := 6) (byt_of hR_taken_b0 (j := 46) rfl) (byt_of hR_taken_b0 (j := 47) rfl) rfl
theorem dR_taken_48 : decode (mcc mR_taken) 48 = .ok (.if_icmp .ne 12, 3) := o160 (a := 0) (b := 12) (byt_of hR_taken_b0 (j := 48) rfl) (byt_of hR_taken_b0 (j := 49) rfl) (byt_of hR_taken_b0 (j := 50) rfl) rfl
theorem dR_taken_51 : decode (mcc mR_taken) 51 = .ok (.aload_n 0, 1) := o42 (byt_of hR_taken_b0 (j := 51) rfl)
theorem dR_taken_52 : decode (mcc mR_taken) 52 = .ok (.getfield 47, 3) := o180 (a := 0) (b := 47) (byt_of hR_taken_b0 (j := 52) rfl) (byt_of hR_taken_b0 (j := 53) rfl) (byt_of hR_taken_b0 (j := 54) rfl) rfl
theorem dR_taken_55 : decode (mcc mR_taken) 55 = .ok (.iload_n 1, 1) := o27 (byt_of hR_taken_b0 (j := 55) rfl)
theorem dR_taken_56 : decode (mcc mR_taken) 56 = .ok (.iaload, 1) := o46 (byt_of hR_taken_b0 (j := 56) rfl)
theorem dR_taken_57 : decode (mcc mR_taken) 57 = .ok (.goto 5, 3) := o167 (a := 0) (b := 5) (byt_of hR_taken_b0 (j := 57) rfl) (byt_of hR_taken_b0 (j := 58) rfl) (byt_of hR_taken_b0 (j := 59) rfl) rfl
theorem dR_taken_60 : decode (mcc mR_taken) 60 = .ok (.bipush (-13), 2) := o16 (a := 243) (byt_of hR_taken_b0 (j := 60) rfl) (byt_of hR_taken_b0 (j := 61) rfl) rfl
theorem dR_taken_62 : decode (mcc mR_taken) 62 = .ok (.ireturn, 1) := o172 (byt_of hR_taken_b0 (j := 62) rfl)
theorem dR_taken_63 : decode (mcc mR_taken) 63 = .ok (.iload_n 1, 1) := o27 (byt_of hR_taken_b0 (j := 63) rfl)
theorem dR_taken_64 : decode (mcc mR_taken) 64 = .ok (.bipush 8, 2) := o16 (a := 8) (byt_of hR_taken_b0 (j := 64) rfl) (byt_of hR_taken_b0 (j := 65) rfl) rfl
theorem dR_taken_66 : decode (mcc mR_taken) 66 = .ok (.isub, 1) := o100 (byt_of hR_taken_b0 (j := 66) rfl)
theorem dR_taken_67 : decode (mcc mR_taken) 67 = .ok (.aload_n 0, 1) := o42 (byt_of hR_taken_b0 (j := 67) rfl)
theorem dR_taken_68 : decode (mcc mR_taken) 68 = .ok (.getfield 148, 3) := o180 (a := 0) (b := 148) (byt_of hR_taken_b0 (j := 68) rfl) (byt_of hR_taken_b0 (j := 69) rfl) (byt_of hR_taken_b0 (j := 70) rfl) rfl
theorem dR_taken_71 : decode (mcc mR_taken) 71 = .ok (.if_icmp .lt 8, 3) := o161 (a := 0) (b := 8) (byt_of hR_taken_b0 (j := 71) rfl) (byt_of hR_taken_b0 (j := 72) rfl) (byt_of hR_taken_b0 (j := 73) rfl) rfl
theorem dR_taken_74 : decode (mcc mR_taken) 74 = .ok (.bipush (-11), 2) := o16 (a := 245) (byt_of hR_taken_b0 (j := 74) rfl) (byt_of hR_taken_b0 (j := 75) rfl) rfl
theorem dR_taken_76 : decode (mcc mR_taken) 76 = .ok (.goto 34, 3) := o167 (a := 0) (b := 34) (byt_of hR_taken_b0 (j := 76) rfl) (byt_of hR_taken_b0 (j := 77) rfl) (byt_of hR_taken_b0 (j := 78) rfl) rfl
theorem dR_taken_79 : decode (mcc mR_taken) 79 = .ok (.iload_n 2, 1) := o28 (byt_of hR_taken_b0 (j := 79) rfl)
theorem dR_taken_80 : decode (mcc mR_taken) 80 = .ok (.bipush 6, 2) := o16 (a := 6) (byt_of hR_taken_b0 (j := 80) rfl) (byt_of hR_taken_b0 (j := 81) rfl) rfl
theorem dR_taken_82 : decode (mcc mR_taken) 82 = .ok (.if_icmp .ge 26, 3) := o162 (a := 0) (b := 26) (byt_of hR_taken_b0 (j := 82) rfl) (byt_of hR_taken_b0 (j := 83) rfl) (byt_of hR_taken_b0 (j := 84) rfl) rfl
theorem dR_taken_85 : decode (mcc mR_taken) 85 = .ok (.aload_n 0, 1) := o42 (byt_of hR_taken_b0 (j := 85) rfl)
theorem dR_taken_86 : decode (mcc mR_taken) 86 = .ok (.getfield 20, 3) := o180 (a := 0) (b := 20) (byt_of hR_taken_b0 (j := 86) rfl) (byt_of hR_taken_b0 (j := 87) rfl) (byt_of hR_taken_b0 (j := 88) rfl) rfl
theorem dR_taken_89 : decode (mcc mR_taken) 89 = .ok (.iload_n 1, 1) := o27 (byt_of hR_taken_b0 (j := 89) rfl)
theorem dR_taken_90 : decode (mcc mR_taken) 90 = .ok (.bipush 8, 2) := o16 (a := 8) (byt_of hR_taken_b0 (j := 90) rfl) (byt_of hR_taken_b0 (j := 91) rfl) rfl
theorem dR_taken_92 : decode (mcc mR_taken) 92 = .ok (.isub, 1) := o100 (byt_of hR_taken_b0 (j := 92) rfl)
theorem dR_taken_93 : decode (mcc mR_taken) 93 = .ok (.iaload, 1) := o46 (byt_of hR_taken_b0 (j := 93) rfl)
theorem dR_taken_94 : decode (mcc mR_taken) 94 = .ok (.iload_n 2, 1) := o28 (byt_of hR_taken_b0 (j := 94) rfl)
theorem dR_taken_95 : decode (mcc mR_taken) 95 = .ok (.invokestatic 380, 3) := o184 (a := 1) (b := 124) (byt_of hR_taken_b0 (j := 95) rfl) (byt_of hR_taken_b0 (j := 96) rfl) (byt_of hR_taken_b0 (j := 97) rfl) rfl
def bR_taken_b1 : List Nat := [1, 124, 153, 0, 10, 27, 16, 8, 100, 167, 0, 5, 16, 243, 172]
theorem hR_taken_b1 : BL (mcc mR_taken) 96 bR_taken_b1 := by decide +kernel
theorem dR_taken_98 : decode (mcc mR_taken) 98 = .ok (.ifCond .eq 10, 3) := o153 (a := 0) (b := 10) (byt_of hR_taken_b1 (j := 2) rfl) (byt_of hR_taken_b1 (j := 3) rfl) (byt_of hR_taken_b1 (j := 4) rfl) rfl
theorem dR_taken_101 : decode (mcc mR_taken) 101 = .ok (.iload_n 1, 1) := o27 (byt_of hR_taken_b1 (j := 5) rfl)
theorem dR_taken_102 : decode (mcc mR_taken) 102 = .ok (.bipush 8, 2) := o16 (a := 8) (byt_of hR_taken_b1 (j := 6) rfl) (byt_of hR_taken_b1 (j := 7) rfl) rfl
theorem dR_taken_104 : decode (mcc mR_taken) 104 = .ok (.isub, 1) := o100 (byt_of hR_taken_b1 (j := 8) rfl)
theorem dR_taken_105 : decode (mcc mR_taken) 105 = .ok (.goto 5, 3) := o167 (a := 0) (b := 5) (byt_of hR_taken_b1 (j := 9) rfl) (byt_of hR_taken_b1 (j := 10) rfl) (byt_of hR_taken_b1 (j := 11) rfl) rfl
theorem dR_taken_108 : decode (mcc mR_taken) 108 = .ok (.bipush (-13), 2) := o16 (a := 243) (byt_of hR_taken_b1 (j := 12) rfl) (byt_of hR_taken_b1 (j := 13) rfl) rfl
theorem dR_taken_110 : decode (mcc mR_taken) 110 = .ok (.ireturn, 1) := o172 (byt_of hR_taken_b1 (j := 14) rfl)
