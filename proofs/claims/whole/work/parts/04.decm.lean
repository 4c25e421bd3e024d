theorem dX7_init_0 : decode cX7_init 0 = .ok (.aload_n 0, 1) := by decide +kernel
theorem dX7_init_1 : decode cX7_init 1 = .ok (.invokespecial 1, 3) := by decide +kernel
theorem dX7_init_4 : decode cX7_init 4 = .ok (.aload_n 0, 1) := by decide +kernel
theorem dX7_init_5 : decode cX7_init 5 = .ok (.sipush 200, 3) := by decide +kernel
theorem dX7_init_8 : decode cX7_init 8 = .ok (.newarray .int, 2) := by decide +kernel
theorem dX7_init_10 : decode cX7_init 10 = .ok (.putfield 7, 3) := by decide +kernel
theorem dX7_init_13 : decode cX7_init 13 = .ok (.aload_n 0, 1) := by decide +kernel
theorem dX7_init_14 : decode cX7_init 14 = .ok (.bipush 8, 2) := by decide +kernel
theorem dX7_init_16 : decode cX7_init 16 = .ok (.newarray .int, 2) := by decide +kernel
theorem dX7_init_18 : decode cX7_init 18 = .ok (.putfield 13, 3) := by decide +kernel
theorem dX7_init_21 : decode cX7_init 21 = .ok (.aload_n 0, 1) := by decide +kernel
theorem dX7_init_22 : decode cX7_init 22 = .ok (.bipush 16, 2) := by decide +kernel
theorem dX7_init_24 : decode cX7_init 24 = .ok (.newarray .int, 2) := by decide +kernel
theorem dX7_init_26 : decode cX7_init 26 = .ok (.putfield 16, 3) := by decide +kernel
theorem dX7_init_29 : decode cX7_init 29 = .ok (.aload_n 0, 1) := by decide +kernel
theorem dX7_init_30 : decode cX7_init 30 = .ok (.bipush 32, 2) := by decide +kernel
theorem dX7_init_32 : decode cX7_init 32 = .ok (.newarray .int, 2) := by decide +kernel
theorem dX7_init_34 : decode cX7_init 34 = .ok (.putfield 19, 3) := by decide +kernel
theorem dX7_init_37 : decode cX7_init 37 = .ok (.aload_n 0, 1) := by decide +kernel
theorem dX7_init_38 : decode cX7_init 38 = .ok (.bipush 32, 2) := by decide +kernel
theorem dX7_init_40 : decode cX7_init 40 = .ok (.newarray .int, 2) := by decide +kernel
theorem dX7_init_42 : decode cX7_init 42 = .ok (.putfield 22, 3) := by decide +kernel
theorem dX7_init_45 : decode cX7_init 45 = .ok (.aload_n 0, 1) := by decide +kernel
theorem dX7_init_46 : decode cX7_init 46 = .ok (.bipush 16, 2) := by decide +kernel
theorem dX7_init_48 : decode cX7_init 48 = .ok (.newarray .int, 2) := by decide +kernel
theorem dX7_init_50 : decode cX7_init 50 = .ok (.putfield 25, 3) := by decide +kernel
theorem dX7_init_53 : decode cX7_init 53 = .ok (.aload_n 0, 1) := by decide +kernel
theorem dX7_init_54 : decode cX7_init 54 = .ok (.bipush 26, 2) := by decide +kernel
theorem dX7_init_56 : decode cX7_init 56 = .ok (.newarray .int, 2) := by decide +kernel
theorem dX7_init_58 : decode cX7_init 58 = .ok (.putfield 28, 3) := by decide +kernel
theorem dX7_init_61 : decode cX7_init 61 = .ok (.aload_n 0, 1) := by decide +kernel
theorem dX7_init_62 : decode cX7_init 62 = .ok (.bipush 26, 2) := by decide +kernel
theorem dX7_init_64 : decode cX7_init 64 = .ok (.newarray .int, 2) := by decide +kernel
theorem dX7_init_66 : decode cX7_init 66 = .ok (.putfield 31, 3) := by decide +kernel
theorem dX7_init_69 : decode cX7_init 69 = .ok (.aload_n 0, 1) := by decide +kernel
theorem dX7_init_70 : decode cX7_init 70 = .ok (.bipush 52, 2) := by decide +kernel
theorem dX7_init_72 : decode cX7_init 72 = .ok (.newarray .int, 2) := by decide +kernel
theorem dX7_init_74 : decode cX7_init 74 = .ok (.putfield 34, 3) := by decide +kernel
theorem dX7_init_77 : decode cX7_init 77 = .ok (.aload_n 0, 1) := by decide +kernel
theorem dX7_init_78 : decode cX7_init 78 = .ok (.iconst 2, 1) := by decide +kernel
theorem dX7_init_79 : decode cX7_init 79 = .ok (.newarray .boolean, 2) := by decide +kernel
theorem dX7_init_81 : decode cX7_init 81 = .ok (.putfield 37, 3) := by decide +kernel
theorem dX7_init_84 : decode cX7_init 84 = .ok (.aload_n 0, 1) := by decide +kernel
theorem dX7_init_85 : decode cX7_init 85 = .ok (.sipush 260, 3) := by decide +kernel
theorem dX7_init_88 : decode cX7_init 88 = .ok (.newarray .int, 2) := by decide +kernel
theorem dX7_init_90 : decode cX7_init 90 = .ok (.putfield 41, 3) := by decide +kernel
theorem dX7_init_93 : decode cX7_init 93 = .ok (.aload_n 0, 1) := by decide +kernel
theorem dX7_init_94 : decode cX7_init 94 = .ok (.iconst 5, 1) := by decide +kernel
theorem dX7_init_95 : decode cX7_init 95 = .ok (.newarray .int, 2) := by decide +kernel
theorem dX7_init_97 : decode cX7_init 97 = .ok (.putfield 44, 3) := by decide +kernel
theorem dX7_init_100 : decode cX7_init 100 = .ok (.aload_n 0, 1) := by decide +kernel
theorem dX7_init_101 : decode cX7_init 101 = .ok (.iconst 5, 1) := by decide +kernel
theorem dX7_init_102 : decode cX7_init 102 = .ok (.newarray .int, 2) := by decide +kernel
theorem dX7_init_104 : decode cX7_init 104 = .ok (.putfield 47, 3) := by decide +kernel
theorem dX7_init_107 : decode cX7_init 107 = .ok (.aload_n 0, 1) := by decide +kernel
theorem dX7_init_108 : decode cX7_init 108 = .ok (.bipush 6, 2) := by decide +kernel
theorem dX7_init_110 : decode cX7_init 110 = .ok (.newarray .int, 2) := by decide +kernel
theorem dX7_init_112 : decode cX7_init 112 = .ok (.putfield 50, 3) := by decide +kernel
theorem dX7_init_115 : decode cX7_init 115 = .ok (.aload_n 0, 1) := by decide +kernel
theorem dX7_init_116 : decode cX7_init 116 = .ok (.bipush 6, 2) := by decide +kernel
theorem dX7_init_118 : decode cX7_init 118 = .ok (.newarray .int, 2) := by decide +kernel
theorem dX7_init_120 : decode cX7_init 120 = .ok (.putfield 53, 3) := by decide +kernel
theorem dX7_init_123 : decode cX7_init 123 = .ok (.aload_n 0, 1) := by decide +kernel
theorem dX7_init_124 : decode cX7_init 124 = .ok (.bipush 6, 2) := by decide +kernel
theorem dX7_init_126 : decode cX7_init 126 = .ok (.newarray .int, 2) := by decide +kernel
theorem dX7_init_128 : decode cX7_init 128 = .ok (.putfield 56, 3) := by decide +kernel
theorem dX7_init_131 : decode cX7_init 131 = .ok (.aload_n 0, 1) := by decide +kernel
theorem dX7_init_132 : decode cX7_init 132 = .ok (.iconst 5, 1) := by decide +kernel
theorem dX7_init_133 : decode cX7_init 133 = .ok (.newarray .int, 2) := by decide +kernel
theorem dX7_init_135 : decode cX7_init 135 = .ok (.putfield 59, 3) := by decide +kernel
theorem dX7_init_138 : decode cX7_init 138 = .ok (.aload_n 0, 1) := by decide +kernel
theorem dX7_init_139 : decode cX7_init 139 = .ok (.iconst 5, 1) := by decide +kernel
theorem dX7_init_140 : decode cX7_init 140 = .ok (.newarray .int, 2) := by decide +kernel
theorem dX7_init_142 : decode cX7_init 142 = .ok (.putfield 62, 3) := by decide +kernel
theorem dX7_init_145 : decode cX7_init 145 = .ok (.aload_n 0, 1) := by decide +kernel
theorem dX7_init_146 : decode cX7_init 146 = .ok (.bipush 8, 2) := by decide +kernel
theorem dX7_init_148 : decode cX7_init 148 = .ok (.newarray .int, 2) := by decide +kernel
theorem dX7_init_150 : decode cX7_init 150 = .ok (.putfield 65, 3) := by decide +kernel
theorem dX7_init_153 : decode cX7_init 153 = .ok (.aload_n 0, 1) := by decide +kernel
theorem dX7_init_154 : decode cX7_init 154 = .ok (.bipush 100, 2) := by decide +kernel
theorem dX7_init_156 : decode cX7_init 156 = .ok (.newarray .int, 2) := by decide +kernel
theorem dX7_init_158 : decode cX7_init 158 = .ok (.putfield 68, 3) := by decide +kernel
theorem dX7_init_161 : decode cX7_init 161 = .ok (.aload_n 0, 1) := by decide +kernel
theorem dX7_init_162 : decode cX7_init 162 = .ok (.iconst 2, 1) := by decide +kernel
theorem dX7_init_163 : decode cX7_init 163 = .ok (.putfield 71, 3) := by decide +kernel
theorem dX7_init_166 : decode cX7_init 166 = .ok (.return_, 1) := by decide +kernel
theorem dX7_in_0 : decode cX7_in 0 = .ok (.iload_n 0, 1) := by decide +kernel
theorem dX7_in_1 : decode cX7_in 1 = .ok (.iload_n 1, 1) := by decide +kernel
theorem dX7_in_2 : decode cX7_in 2 = .ok (.if_icmp .lt 12, 3) := by decide +kernel
theorem dX7_in_5 : decode cX7_in 5 = .ok (.iload_n 0, 1) := by decide +kernel
theorem dX7_in_6 : decode cX7_in 6 = .ok (.iload_n 2, 1) := by decide +kernel
theorem dX7_in_7 : decode cX7_in 7 = .ok (.if_icmp .gt 7, 3) := by decide +kernel
theorem dX7_in_10 : decode cX7_in 10 = .ok (.iconst 1, 1) := by decide +kernel
theorem dX7_in_11 : decode cX7_in 11 = .ok (.goto 4, 3) := by decide +kernel
theorem dX7_in_14 : decode cX7_in 14 = .ok (.iconst 0, 1) := by decide +kernel
theorem dX7_in_15 : decode cX7_in 15 = .ok (.ireturn, 1) := by decide +kernel
theorem dX7_type_0 : decode cX7_type 0 = .ok (.aload_n 0, 1) := by decide +kernel
theorem dX7_type_1 : decode cX7_type 1 = .ok (.iconst 0, 1) := by decide +kernel
theorem dX7_type_2 : decode cX7_type 2 = .ok (.putfield 75, 3) := by decide +kernel
theorem dX7_type_5 : decode cX7_type 5 = .ok (.iload_n 1, 1) := by decide +kernel
theorem dX7_type_6 : decode cX7_type 6 = .ok (.iconst 0, 1) := by decide +kernel
theorem dX7_type_7 : decode cX7_type 7 = .ok (.sipush 255, 3) := by decide +kernel
theorem dX7_type_10 : decode cX7_type 10 = .ok (.invokestatic 78, 3) := by decide +kernel
theorem dX7_type_13 : decode cX7_type 13 = .ok (.ifCond .ne 5, 3) := by decide +kernel
theorem dX7_type_16 : decode cX7_type 16 = .ok (.iconst (-1), 1) := by decide +kernel
theorem dX7_type_17 : decode cX7_type 17 = .ok (.ireturn, 1) := by decide +kernel
theorem dX7_type_18 : decode cX7_type 18 = .ok (.aload_n 0, 1) := by decide +kernel
theorem dX7_type_19 : decode cX7_type 19 = .ok (.getfield 82, 3) := by decide +kernel
theorem dX7_type_22 : decode cX7_type 22 = .ok (.sipush 200, 3) := by decide +kernel
theorem dX7_type_25 : decode cX7_type 25 = .ok (.if_icmp .ne 6, 3) := by decide +kernel
theorem dX7_type_28 : decode cX7_type 28 = .ok (.bipush (-3), 2) := by decide +kernel
theorem dX7_type_30 : decode cX7_type 30 = .ok (.ireturn, 1) := by decide +kernel
theorem dX7_type_31 : decode cX7_type 31 = .ok (.aload_n 0, 1) := by decide +kernel
theorem dX7_type_32 : decode cX7_type 32 = .ok (.getfield 7, 3) := by decide +kernel
theorem dX7_type_35 : decode cX7_type 35 = .ok (.aload_n 0, 1) := by decide +kernel
theorem dX7_type_36 : decode cX7_type 36 = .ok (.getfield 82, 3) := by decide +kernel
theorem dX7_type_39 : decode cX7_type 39 = .ok (.iload_n 1, 1) := by decide +kernel
theorem dX7_type_40 : decode cX7_type 40 = .ok (.iastore, 1) := by decide +kernel
theorem dX7_type_41 : decode cX7_type 41 = .ok (.aload_n 0, 1) := by decide +kernel
theorem dX7_type_42 : decode cX7_type 42 = .ok (.dup, 1) := by decide +kernel
theorem dX7_type_43 : decode cX7_type 43 = .ok (.getfield 82, 3) := by decide +kernel
theorem dX7_type_46 : decode cX7_type 46 = .ok (.iconst 1, 1) := by decide +kernel
theorem dX7_type_47 : decode cX7_type 47 = .ok (.iadd, 1) := by decide +kernel
theorem dX7_type_48 : decode cX7_type 48 = .ok (.putfield 82, 3) := by decide +kernel
theorem dX7_type_51 : decode cX7_type 51 = .ok (.aload_n 0, 1) := by decide +kernel
theorem dX7_type_52 : decode cX7_type 52 = .ok (.getfield 82, 3) := by decide +kernel
theorem dX7_type_55 : decode cX7_type 55 = .ok (.ireturn, 1) := by decide +kernel
theorem dX7_clear_0 : decode cX7_clear 0 = .ok (.aload_n 0, 1) := by decide +kernel
theorem dX7_clear_1 : decode cX7_clear 1 = .ok (.iconst 0, 1) := by decide +kernel
theorem dX7_clear_2 : decode cX7_clear 2 = .ok (.putfield 75, 3) := by decide +kernel
theorem dX7_clear_5 : decode cX7_clear 5 = .ok (.aload_n 0, 1) := by decide +kernel
theorem dX7_clear_6 : decode cX7_clear 6 = .ok (.getfield 82, 3) := by decide +kernel
theorem dX7_clear_9 : decode cX7_clear 9 = .ok (.istore_n 1, 1) := by decide +kernel
theorem dX7_clear_10 : decode cX7_clear 10 = .ok (.aload_n 0, 1) := by decide +kernel
theorem dX7_clear_11 : decode cX7_clear 11 = .ok (.iconst 0, 1) := by decide +kernel
theorem dX7_clear_12 : decode cX7_clear 12 = .ok (.putfield 82, 3) := by decide +kernel
theorem dX7_clear_15 : decode cX7_clear 15 = .ok (.iload_n 1, 1) := by decide +kernel
theorem dX7_clear_16 : decode cX7_clear 16 = .ok (.ireturn, 1) := by decide +kernel
theorem dX7_letterAt_0 : decode cX7_letterAt 0 = .ok (.iload_n 1, 1) := by decide +kernel
theorem dX7_letterAt_1 : decode cX7_letterAt 1 = .ok (.aload_n 0, 1) := by decide +kernel
theorem dX7_letterAt_2 : decode cX7_letterAt 2 = .ok (.getfield 82, 3) := by decide +kernel
theorem dX7_letterAt_5 : decode cX7_letterAt 5 = .ok (.if_icmp .ge 12, 3) := by decide +kernel
theorem dX7_letterAt_8 : decode cX7_letterAt 8 = .ok (.aload_n 0, 1) := by decide +kernel
theorem dX7_letterAt_9 : decode cX7_letterAt 9 = .ok (.getfield 7, 3) := by decide +kernel
theorem dX7_letterAt_12 : decode cX7_letterAt 12 = .ok (.iload_n 1, 1) := by decide +kernel
theorem dX7_letterAt_13 : decode cX7_letterAt 13 = .ok (.iaload, 1) := by decide +kernel
theorem dX7_letterAt_14 : decode cX7_letterAt 14 = .ok (.goto 4, 3) := by decide +kernel
theorem dX7_letterAt_17 : decode cX7_letterAt 17 = .ok (.iconst (-1), 1) := by decide +kernel
theorem dX7_letterAt_18 : decode cX7_letterAt 18 = .ok (.ireturn, 1) := by decide +kernel
theorem dX7_advances_0 : decode cX7_advances 0 = .ok (.aload_n 0, 1) := by decide +kernel
theorem dX7_advances_1 : decode cX7_advances 1 = .ok (.aload_n 0, 1) := by decide +kernel
theorem dX7_advances_2 : decode cX7_advances 2 = .ok (.getfield 85, 3) := by decide +kernel
theorem dX7_advances_5 : decode cX7_advances 5 = .ok (.invokevirtual 88, 3) := by decide +kernel
theorem dX7_advances_8 : decode cX7_advances 8 = .ok (.bipush 32, 2) := by decide +kernel
theorem dX7_advances_10 : decode cX7_advances 10 = .ok (.if_icmp .ne 16, 3) := by decide +kernel
theorem dX7_advances_13 : decode cX7_advances 13 = .ok (.aload_n 0, 1) := by decide +kernel
theorem dX7_advances_14 : decode cX7_advances 14 = .ok (.dup, 1) := by decide +kernel
theorem dX7_advances_15 : decode cX7_advances 15 = .ok (.getfield 85, 3) := by decide +kernel
theorem dX7_advances_18 : decode cX7_advances 18 = .ok (.iconst 1, 1) := by decide +kernel
theorem dX7_advances_19 : decode cX7_advances 19 = .ok (.iadd, 1) := by decide +kernel
theorem dX7_advances_20 : decode cX7_advances 20 = .ok (.putfield 85, 3) := by decide +kernel
theorem dX7_advances_23 : decode cX7_advances 23 = .ok (.goto (-23), 3) := by decide +kernel
theorem dX7_advances_26 : decode cX7_advances 26 = .ok (.aload_n 0, 1) := by decide +kernel
theorem dX7_advances_27 : decode cX7_advances 27 = .ok (.aload_n 0, 1) := by decide +kernel
theorem dX7_advances_28 : decode cX7_advances 28 = .ok (.getfield 85, 3) := by decide +kernel
theorem dX7_advances_31 : decode cX7_advances 31 = .ok (.putfield 92, 3) := by decide +kernel
theorem dX7_advances_34 : decode cX7_advances 34 = .ok (.aload_n 0, 1) := by decide +kernel
theorem dX7_advances_35 : decode cX7_advances 35 = .ok (.aload_n 0, 1) := by decide +kernel
theorem dX7_advances_36 : decode cX7_advances 36 = .ok (.getfield 85, 3) := by decide +kernel
theorem dX7_advances_39 : decode cX7_advances 39 = .ok (.invokevirtual 88, 3) := by decide +kernel
theorem dX7_advances_42 : decode cX7_advances 42 = .ok (.istore_n 1, 1) := by decide +kernel
theorem dX7_advances_43 : decode cX7_advances 43 = .ok (.iload_n 1, 1) := by decide +kernel
theorem dX7_advances_44 : decode cX7_advances 44 = .ok (.ifCond .ge 11, 3) := by decide +kernel
theorem dX7_advances_47 : decode cX7_advances 47 = .ok (.aload_n 0, 1) := by decide +kernel
theorem dX7_advances_48 : decode cX7_advances 48 = .ok (.iconst 0, 1) := by decide +kernel
theorem dX7_advances_49 : decode cX7_advances 49 = .ok (.putfield 95, 3) := by decide +kernel
theorem dX7_advances_52 : decode cX7_advances 52 = .ok (.goto 187, 3) := by decide +kernel
theorem dX7_advances_55 : decode cX7_advances 55 = .ok (.iload_n 1, 1) := by decide +kernel
theorem dX7_advances_56 : decode cX7_advances 56 = .ok (.bipush 48, 2) := by decide +kernel
theorem dX7_advances_58 : decode cX7_advances 58 = .ok (.bipush 57, 2) := by decide +kernel
theorem dX7_advances_60 : decode cX7_advances 60 = .ok (.invokestatic 78, 3) := by decide +kernel
theorem dX7_advances_63 : decode cX7_advances 63 = .ok (.ifCond .eq 118, 3) := by decide +kernel
theorem dX7_advances_66 : decode cX7_advances 66 = .ok (.aload_n 0, 1) := by decide +kernel
theorem dX7_advances_67 : decode cX7_advances 67 = .ok (.iconst 0, 1) := by decide +kernel
theorem dX7_advances_68 : decode cX7_advances 68 = .ok (.putfield 98, 3) := by decide +kernel
theorem dX7_advances_71 : decode cX7_advances 71 = .ok (.aload_n 0, 1) := by decide +kernel
theorem dX7_advances_72 : decode cX7_advances 72 = .ok (.aload_n 0, 1) := by decide +kernel
theorem dX7_advances_73 : decode cX7_advances 73 = .ok (.getfield 85, 3) := by decide +kernel
theorem dX7_advances_76 : decode cX7_advances 76 = .ok (.invokevirtual 88, 3) := by decide +kernel
theorem dX7_advances_79 : decode cX7_advances 79 = .ok (.bipush 48, 2) := by decide +kernel
theorem dX7_advances_81 : decode cX7_advances 81 = .ok (.bipush 57, 2) := by decide +kernel
theorem dX7_advances_83 : decode cX7_advances 83 = .ok (.invokestatic 78, 3) := by decide +kernel
theorem dX7_advances_86 : decode cX7_advances 86 = .ok (.ifCond .eq 55, 3) := by decide +kernel
theorem dX7_advances_89 : decode cX7_advances 89 = .ok (.aload_n 0, 1) := by decide +kernel
theorem dX7_advances_90 : decode cX7_advances 90 = .ok (.aload_n 0, 1) := by decide +kernel
theorem dX7_advances_91 : decode cX7_advances 91 = .ok (.getfield 98, 3) := by decide +kernel
theorem dX7_advances_94 : decode cX7_advances 94 = .ok (.bipush 99, 2) := by decide +kernel
theorem dX7_advances_96 : decode cX7_advances 96 = .ok (.if_icmp .le 10, 3) := by decide +kernel
theorem dX7_advances_99 : decode cX7_advances 99 = .ok (.aload_n 0, 1) := by decide +kernel
theorem dX7_advances_100 : decode cX7_advances 100 = .ok (.getfield 98, 3) := by decide +kernel
theorem dX7_advances_103 : decode cX7_advances 103 = .ok (.goto 22, 3) := by decide +kernel
theorem dX7_advances_106 : decode cX7_advances 106 = .ok (.bipush 10, 2) := by decide +kernel
theorem dX7_advances_108 : decode cX7_advances 108 = .ok (.aload_n 0, 1) := by decide +kernel
theorem dX7_advances_109 : decode cX7_advances 109 = .ok (.getfield 98, 3) := by decide +kernel
theorem dX7_advances_112 : decode cX7_advances 112 = .ok (.imul, 1) := by decide +kernel
theorem dX7_advances_113 : decode cX7_advances 113 = .ok (.aload_n 0, 1) := by decide +kernel
theorem dX7_advances_114 : decode cX7_advances 114 = .ok (.aload_n 0, 1) := by decide +kernel
theorem dX7_advances_115 : decode cX7_advances 115 = .ok (.getfield 85, 3) := by decide +kernel
theorem dX7_advances_118 : decode cX7_advances 118 = .ok (.invokevirtual 88, 3) := by decide +kernel
theorem dX7_advances_121 : decode cX7_advances 121 = .ok (.iadd, 1) := by decide +kernel
theorem dX7_advances_122 : decode cX7_advances 122 = .ok (.bipush 48, 2) := by decide +kernel
theorem dX7_advances_124 : decode cX7_advances 124 = .ok (.isub, 1) := by decide +kernel
theorem dX7_advances_125 : decode cX7_advances 125 = .ok (.putfield 98, 3) := by decide +kernel
theorem dX7_advances_128 : decode cX7_advances 128 = .ok (.aload_n 0, 1) := by decide +kernel
theorem dX7_advances_129 : decode cX7_advances 129 = .ok (.dup, 1) := by decide +kernel
theorem dX7_advances_130 : decode cX7_advances 130 = .ok (.getfield 85, 3) := by decide +kernel
theorem dX7_advances_133 : decode cX7_advances 133 = .ok (.iconst 1, 1) := by decide +kernel
theorem dX7_advances_134 : decode cX7_advances 134 = .ok (.iadd, 1) := by decide +kernel
theorem dX7_advances_135 : decode cX7_advances 135 = .ok (.putfield 85, 3) := by decide +kernel
theorem dX7_advances_138 : decode cX7_advances 138 = .ok (.goto (-67), 3) := by decide +kernel
theorem dX7_advances_141 : decode cX7_advances 141 = .ok (.aload_n 0, 1) := by decide +kernel
theorem dX7_advances_142 : decode cX7_advances 142 = .ok (.aload_n 0, 1) := by decide +kernel
theorem dX7_advances_143 : decode cX7_advances 143 = .ok (.getfield 98, 3) := by decide +kernel
theorem dX7_advances_146 : decode cX7_advances 146 = .ok (.bipush 99, 2) := by decide +kernel
theorem dX7_advances_148 : decode cX7_advances 148 = .ok (.if_icmp .gt 22, 3) := by decide +kernel
theorem dX7_advances_151 : decode cX7_advances 151 = .ok (.iload_n 1, 1) := by decide +kernel
theorem dX7_advances_152 : decode cX7_advances 152 = .ok (.bipush 48, 2) := by decide +kernel
theorem dX7_advances_154 : decode cX7_advances 154 = .ok (.if_icmp .ne 20, 3) := by decide +kernel
theorem dX7_advances_157 : decode cX7_advances 157 = .ok (.aload_n 0, 1) := by decide +kernel
theorem dX7_advances_158 : decode cX7_advances 158 = .ok (.getfield 85, 3) := by decide +kernel
theorem dX7_advances_161 : decode cX7_advances 161 = .ok (.aload_n 0, 1) := by decide +kernel
theorem dX7_advances_162 : decode cX7_advances 162 = .ok (.getfield 92, 3) := by decide +kernel
theorem dX7_advances_165 : decode cX7_advances 165 = .ok (.isub, 1) := by decide +kernel
theorem dX7_advances_166 : decode cX7_advances 166 = .ok (.iconst 1, 1) := by decide +kernel
theorem dX7_advances_167 : decode cX7_advances 167 = .ok (.if_icmp .le 7, 3) := by decide +kernel
theorem dX7_advances_170 : decode cX7_advances 170 = .ok (.iconst 4, 1) := by decide +kernel
theorem dX7_advances_171 : decode cX7_advances 171 = .ok (.goto 4, 3) := by decide +kernel
theorem dX7_advances_174 : decode cX7_advances 174 = .ok (.iconst 2, 1) := by decide +kernel
theorem dX7_advances_175 : decode cX7_advances 175 = .ok (.putfield 95, 3) := by decide +kernel
theorem dX7_advances_178 : decode cX7_advances 178 = .ok (.goto 61, 3) := by decide +kernel
theorem dX7_advances_181 : decode cX7_advances 181 = .ok (.aload_n 0, 1) := by decide +kernel
theorem dX7_advances_182 : decode cX7_advances 182 = .ok (.dup, 1) := by decide +kernel
theorem dX7_advances_183 : decode cX7_advances 183 = .ok (.getfield 85, 3) := by decide +kernel
theorem dX7_advances_186 : decode cX7_advances 186 = .ok (.iconst 1, 1) := by decide +kernel
theorem dX7_advances_187 : decode cX7_advances 187 = .ok (.iadd, 1) := by decide +kernel
theorem dX7_advances_188 : decode cX7_advances 188 = .ok (.putfield 85, 3) := by decide +kernel
theorem dX7_advances_191 : decode cX7_advances 191 = .ok (.aload_n 0, 1) := by decide +kernel
theorem dX7_advances_192 : decode cX7_advances 192 = .ok (.iload_n 1, 1) := by decide +kernel
theorem dX7_advances_193 : decode cX7_advances 193 = .ok (.putfield 98, 3) := by decide +kernel
theorem dX7_advances_196 : decode cX7_advances 196 = .ok (.aload_n 0, 1) := by decide +kernel
theorem dX7_advances_197 : decode cX7_advances 197 = .ok (.iload_n 1, 1) := by decide +kernel
theorem dX7_advances_198 : decode cX7_advances 198 = .ok (.bipush 59, 2) := by decide +kernel
theorem dX7_advances_200 : decode cX7_advances 200 = .ok (.if_icmp .ne 7, 3) := by decide +kernel
theorem dX7_advances_203 : decode cX7_advances 203 = .ok (.iconst 3, 1) := by decide +kernel
theorem dX7_advances_204 : decode cX7_advances 204 = .ok (.goto 32, 3) := by decide +kernel
theorem dX7_advances_207 : decode cX7_advances 207 = .ok (.iload_n 1, 1) := by decide +kernel
theorem dX7_advances_208 : decode cX7_advances 208 = .ok (.bipush 115, 2) := by decide +kernel
theorem dX7_advances_210 : decode cX7_advances 210 = .ok (.if_icmp .eq 21, 3) := by decide +kernel
theorem dX7_advances_213 : decode cX7_advances 213 = .ok (.iload_n 1, 1) := by decide +kernel
theorem dX7_advances_214 : decode cX7_advances 214 = .ok (.bipush 108, 2) := by decide +kernel
theorem dX7_advances_216 : decode cX7_advances 216 = .ok (.if_icmp .eq 15, 3) := by decide +kernel
theorem dX7_advances_219 : decode cX7_advances 219 = .ok (.iload_n 1, 1) := by decide +kernel
theorem dX7_advances_220 : decode cX7_advances 220 = .ok (.bipush 100, 2) := by decide +kernel
theorem dX7_advances_222 : decode cX7_advances 222 = .ok (.if_icmp .eq 9, 3) := by decide +kernel
theorem dX7_advances_225 : decode cX7_advances 225 = .ok (.iload_n 1, 1) := by decide +kernel
theorem dX7_advances_226 : decode cX7_advances 226 = .ok (.bipush 112, 2) := by decide +kernel
theorem dX7_advances_228 : decode cX7_advances 228 = .ok (.if_icmp .ne 7, 3) := by decide +kernel
theorem dX7_advances_231 : decode cX7_advances 231 = .ok (.iconst 1, 1) := by decide +kernel
theorem dX7_advances_232 : decode cX7_advances 232 = .ok (.goto 4, 3) := by decide +kernel
theorem dX7_advances_235 : decode cX7_advances 235 = .ok (.iconst 4, 1) := by decide +kernel
theorem dX7_advances_236 : decode cX7_advances 236 = .ok (.putfield 95, 3) := by decide +kernel
theorem dX7_advances_239 : decode cX7_advances 239 = .ok (.return_, 1) := by decide +kernel
theorem dX7_isWell_0 : decode cX7_isWell 0 = .ok (.aload_n 0, 1) := by decide +kernel
theorem dX7_isWell_1 : decode cX7_isWell 1 = .ok (.getfield 101, 3) := by decide +kernel
theorem dX7_isWell_4 : decode cX7_isWell 4 = .ok (.ifCond .ge 7, 3) := by decide +kernel
theorem dX7_isWell_7 : decode cX7_isWell 7 = .ok (.iconst 1, 1) := by decide +kernel
theorem dX7_isWell_8 : decode cX7_isWell 8 = .ok (.goto 4, 3) := by decide +kernel
theorem dX7_isWell_11 : decode cX7_isWell 11 = .ok (.iconst 0, 1) := by decide +kernel
theorem dX7_isWell_12 : decode cX7_isWell 12 = .ok (.ireturn, 1) := by decide +kernel
theorem dX7_takes_0 : decode cX7_takes 0 = .ok (.aload_n 0, 1) := by decide +kernel
theorem dX7_takes_1 : decode cX7_takes 1 = .ok (.invokevirtual 104, 3) := by decide +kernel
theorem dX7_takes_4 : decode cX7_takes 4 = .ok (.ifCond .ne 5, 3) := by decide +kernel
theorem dX7_takes_7 : decode cX7_takes 7 = .ok (.iconst 0, 1) := by decide +kernel
theorem dX7_takes_8 : decode cX7_takes 8 = .ok (.ireturn, 1) := by decide +kernel
theorem dX7_takes_9 : decode cX7_takes 9 = .ok (.iload_n 1, 1) := by decide +kernel
theorem dX7_takes_10 : decode cX7_takes 10 = .ok (.ifCond .ne 13, 3) := by decide +kernel
theorem dX7_takes_13 : decode cX7_takes 13 = .ok (.aload_n 0, 1) := by decide +kernel
theorem dX7_takes_14 : decode cX7_takes 14 = .ok (.aload_n 0, 1) := by decide +kernel
theorem dX7_takes_15 : decode cX7_takes 15 = .ok (.getfield 92, 3) := by decide +kernel
theorem dX7_takes_18 : decode cX7_takes 18 = .ok (.putfield 101, 3) := by decide +kernel
theorem dX7_takes_21 : decode cX7_takes 21 = .ok (.iconst 0, 1) := by decide +kernel
theorem dX7_takes_22 : decode cX7_takes 22 = .ok (.ireturn, 1) := by decide +kernel
theorem dX7_takes_23 : decode cX7_takes 23 = .ok (.aload_n 0, 1) := by decide +kernel
theorem dX7_takes_24 : decode cX7_takes 24 = .ok (.getfield 98, 3) := by decide +kernel
theorem dX7_takes_27 : decode cX7_takes 27 = .ok (.istore_n 2, 1) := by decide +kernel
theorem dX7_takes_28 : decode cX7_takes 28 = .ok (.aload_n 0, 1) := by decide +kernel
theorem dX7_takes_29 : decode cX7_takes 29 = .ok (.invokevirtual 108, 3) := by decide +kernel
theorem dX7_takes_32 : decode cX7_takes 32 = .ok (.iload_n 2, 1) := by decide +kernel
theorem dX7_takes_33 : decode cX7_takes 33 = .ok (.ireturn, 1) := by decide +kernel
theorem dX7_number_0 : decode cX7_number 0 = .ok (.aload_n 0, 1) := by decide +kernel
theorem dX7_number_1 : decode cX7_number 1 = .ok (.aload_n 0, 1) := by decide +kernel
theorem dX7_number_2 : decode cX7_number 2 = .ok (.getfield 95, 3) := by decide +kernel
theorem dX7_number_5 : decode cX7_number 5 = .ok (.iconst 2, 1) := by decide +kernel
theorem dX7_number_6 : decode cX7_number 6 = .ok (.if_icmp .ne 19, 3) := by decide +kernel
theorem dX7_number_9 : decode cX7_number 9 = .ok (.aload_n 0, 1) := by decide +kernel
theorem dX7_number_10 : decode cX7_number 10 = .ok (.getfield 98, 3) := by decide +kernel
theorem dX7_number_13 : decode cX7_number 13 = .ok (.iload_n 1, 1) := by decide +kernel
theorem dX7_number_14 : decode cX7_number 14 = .ok (.iload_n 2, 1) := by decide +kernel
theorem dX7_number_15 : decode cX7_number 15 = .ok (.invokestatic 78, 3) := by decide +kernel
theorem dX7_number_18 : decode cX7_number 18 = .ok (.ifCond .eq 7, 3) := by decide +kernel
theorem dX7_number_21 : decode cX7_number 21 = .ok (.iconst 1, 1) := by decide +kernel
theorem dX7_number_22 : decode cX7_number 22 = .ok (.goto 4, 3) := by decide +kernel
theorem dX7_number_25 : decode cX7_number 25 = .ok (.iconst 0, 1) := by decide +kernel
theorem dX7_number_26 : decode cX7_number 26 = .ok (.invokevirtual 111, 3) := by decide +kernel
theorem dX7_number_29 : decode cX7_number 29 = .ok (.ireturn, 1) := by decide +kernel
theorem dX7_mayBegin_0 : decode cX7_mayBegin 0 = .ok (.aload_n 0, 1) := by decide +kernel
theorem dX7_mayBegin_1 : decode cX7_mayBegin 1 = .ok (.getfield 98, 3) := by decide +kernel
theorem dX7_mayBegin_4 : decode cX7_mayBegin 4 = .ok (.bipush 115, 2) := by decide +kernel
theorem dX7_mayBegin_6 : decode cX7_mayBegin 6 = .ok (.if_icmp .ne 24, 3) := by decide +kernel
theorem dX7_mayBegin_9 : decode cX7_mayBegin 9 = .ok (.aload_n 0, 1) := by decide +kernel
theorem dX7_mayBegin_10 : decode cX7_mayBegin 10 = .ok (.getfield 115, 3) := by decide +kernel
theorem dX7_mayBegin_13 : decode cX7_mayBegin 13 = .ok (.iconst 4, 1) := by decide +kernel
theorem dX7_mayBegin_14 : decode cX7_mayBegin 14 = .ok (.if_icmp .ge 14, 3) := by decide +kernel
theorem dX7_mayBegin_17 : decode cX7_mayBegin 17 = .ok (.aload_n 0, 1) := by decide +kernel
theorem dX7_mayBegin_18 : decode cX7_mayBegin 18 = .ok (.getfield 118, 3) := by decide +kernel
theorem dX7_mayBegin_21 : decode cX7_mayBegin 21 = .ok (.ifCond .ne 7, 3) := by decide +kernel
theorem dX7_mayBegin_24 : decode cX7_mayBegin 24 = .ok (.iconst 1, 1) := by decide +kernel
theorem dX7_mayBegin_25 : decode cX7_mayBegin 25 = .ok (.goto 4, 3) := by decide +kernel
theorem dX7_mayBegin_28 : decode cX7_mayBegin 28 = .ok (.iconst 0, 1) := by decide +kernel
theorem dX7_mayBegin_29 : decode cX7_mayBegin 29 = .ok (.ireturn, 1) := by decide +kernel
theorem dX7_mayBegin_30 : decode cX7_mayBegin 30 = .ok (.aload_n 0, 1) := by decide +kernel
theorem dX7_mayBegin_31 : decode cX7_mayBegin 31 = .ok (.getfield 98, 3) := by decide +kernel
theorem dX7_mayBegin_34 : decode cX7_mayBegin 34 = .ok (.bipush 108, 2) := by decide +kernel
theorem dX7_mayBegin_36 : decode cX7_mayBegin 36 = .ok (.if_icmp .ne 19, 3) := by decide +kernel
theorem dX7_mayBegin_39 : decode cX7_mayBegin 39 = .ok (.aload_n 0, 1) := by decide +kernel
theorem dX7_mayBegin_40 : decode cX7_mayBegin 40 = .ok (.getfield 118, 3) := by decide +kernel
theorem dX7_mayBegin_43 : decode cX7_mayBegin 43 = .ok (.iconst 4, 1) := by decide +kernel
theorem dX7_mayBegin_44 : decode cX7_mayBegin 44 = .ok (.if_icmp .ge 7, 3) := by decide +kernel
theorem dX7_mayBegin_47 : decode cX7_mayBegin 47 = .ok (.iconst 1, 1) := by decide +kernel
theorem dX7_mayBegin_48 : decode cX7_mayBegin 48 = .ok (.goto 47, 3) := by decide +kernel
theorem dX7_mayBegin_51 : decode cX7_mayBegin 51 = .ok (.iconst 0, 1) := by decide +kernel
theorem dX7_mayBegin_52 : decode cX7_mayBegin 52 = .ok (.goto 43, 3) := by decide +kernel
theorem dX7_mayBegin_55 : decode cX7_mayBegin 55 = .ok (.aload_n 0, 1) := by decide +kernel
theorem dX7_mayBegin_56 : decode cX7_mayBegin 56 = .ok (.getfield 98, 3) := by decide +kernel
theorem dX7_mayBegin_59 : decode cX7_mayBegin 59 = .ok (.bipush 112, 2) := by decide +kernel
theorem dX7_mayBegin_61 : decode cX7_mayBegin 61 = .ok (.if_icmp .ne 20, 3) := by decide +kernel
theorem dX7_mayBegin_64 : decode cX7_mayBegin 64 = .ok (.aload_n 0, 1) := by decide +kernel
theorem dX7_mayBegin_65 : decode cX7_mayBegin 65 = .ok (.getfield 121, 3) := by decide +kernel
theorem dX7_mayBegin_68 : decode cX7_mayBegin 68 = .ok (.bipush 8, 2) := by decide +kernel
theorem dX7_mayBegin_70 : decode cX7_mayBegin 70 = .ok (.if_icmp .ge 7, 3) := by decide +kernel
theorem dX7_mayBegin_73 : decode cX7_mayBegin 73 = .ok (.iconst 1, 1) := by decide +kernel
theorem dX7_mayBegin_74 : decode cX7_mayBegin 74 = .ok (.goto 21, 3) := by decide +kernel
theorem dX7_mayBegin_77 : decode cX7_mayBegin 77 = .ok (.iconst 0, 1) := by decide +kernel
theorem dX7_mayBegin_78 : decode cX7_mayBegin 78 = .ok (.goto 17, 3) := by decide +kernel
theorem dX7_mayBegin_81 : decode cX7_mayBegin 81 = .ok (.aload_n 0, 1) := by decide +kernel
theorem dX7_mayBegin_82 : decode cX7_mayBegin 82 = .ok (.getfield 124, 3) := by decide +kernel
theorem dX7_mayBegin_85 : decode cX7_mayBegin 85 = .ok (.bipush (-9), 2) := by decide +kernel
theorem dX7_mayBegin_87 : decode cX7_mayBegin 87 = .ok (.if_icmp .ne 7, 3) := by decide +kernel
theorem dX7_mayBegin_90 : decode cX7_mayBegin 90 = .ok (.iconst 1, 1) := by decide +kernel
theorem dX7_mayBegin_91 : decode cX7_mayBegin 91 = .ok (.goto 4, 3) := by decide +kernel
theorem dX7_mayBegin_94 : decode cX7_mayBegin 94 = .ok (.iconst 0, 1) := by decide +kernel
theorem dX7_mayBegin_95 : decode cX7_mayBegin 95 = .ok (.ireturn, 1) := by decide +kernel
theorem dX7_readsItem_0 : decode cX7_readsItem 0 = .ok (.iload_n 1, 1) := by decide +kernel
theorem dX7_readsItem_1 : decode cX7_readsItem 1 = .ok (.bipush 115, 2) := by decide +kernel
theorem dX7_readsItem_3 : decode cX7_readsItem 3 = .ok (.if_icmp .ne 84, 3) := by decide +kernel
theorem dX7_readsItem_6 : decode cX7_readsItem 6 = .ok (.aload_n 0, 1) := by decide +kernel
theorem dX7_readsItem_7 : decode cX7_readsItem 7 = .ok (.getfield 16, 3) := by decide +kernel
theorem dX7_readsItem_10 : decode cX7_readsItem 10 = .ok (.bipush 8, 2) := by decide +kernel
theorem dX7_readsItem_12 : decode cX7_readsItem 12 = .ok (.iconst 2, 1) := by decide +kernel
theorem dX7_readsItem_13 : decode cX7_readsItem 13 = .ok (.aload_n 0, 1) := by decide +kernel
theorem dX7_readsItem_14 : decode cX7_readsItem 14 = .ok (.getfield 115, 3) := by decide +kernel
theorem dX7_readsItem_17 : decode cX7_readsItem 17 = .ok (.imul, 1) := by decide +kernel
theorem dX7_readsItem_18 : decode cX7_readsItem 18 = .ok (.iadd, 1) := by decide +kernel
theorem dX7_readsItem_19 : decode cX7_readsItem 19 = .ok (.aload_n 0, 1) := by decide +kernel
theorem dX7_readsItem_20 : decode cX7_readsItem 20 = .ok (.iconst 0, 1) := by decide +kernel
theorem dX7_readsItem_21 : decode cX7_readsItem 21 = .ok (.iconst 3, 1) := by decide +kernel
theorem dX7_readsItem_22 : decode cX7_readsItem 22 = .ok (.invokevirtual 127, 3) := by decide +kernel
theorem dX7_readsItem_25 : decode cX7_readsItem 25 = .ok (.iastore, 1) := by decide +kernel
theorem dX7_readsItem_26 : decode cX7_readsItem 26 = .ok (.aload_n 0, 1) := by decide +kernel
theorem dX7_readsItem_27 : decode cX7_readsItem 27 = .ok (.getfield 13, 3) := by decide +kernel
theorem dX7_readsItem_30 : decode cX7_readsItem 30 = .ok (.iconst 4, 1) := by decide +kernel
theorem dX7_readsItem_31 : decode cX7_readsItem 31 = .ok (.aload_n 0, 1) := by decide +kernel
theorem dX7_readsItem_32 : decode cX7_readsItem 32 = .ok (.getfield 115, 3) := by decide +kernel
theorem dX7_readsItem_35 : decode cX7_readsItem 35 = .ok (.iadd, 1) := by decide +kernel
theorem dX7_readsItem_36 : decode cX7_readsItem 36 = .ok (.aload_n 0, 1) := by decide +kernel
theorem dX7_readsItem_37 : decode cX7_readsItem 37 = .ok (.iconst 2, 1) := by decide +kernel
theorem dX7_readsItem_38 : decode cX7_readsItem 38 = .ok (.bipush 30, 2) := by decide +kernel
theorem dX7_readsItem_40 : decode cX7_readsItem 40 = .ok (.invokevirtual 127, 3) := by decide +kernel
theorem dX7_readsItem_43 : decode cX7_readsItem 43 = .ok (.iastore, 1) := by decide +kernel
theorem dX7_readsItem_44 : decode cX7_readsItem 44 = .ok (.aload_n 0, 1) := by decide +kernel
theorem dX7_readsItem_45 : decode cX7_readsItem 45 = .ok (.getfield 16, 3) := by decide +kernel
theorem dX7_readsItem_48 : decode cX7_readsItem 48 = .ok (.bipush 9, 2) := by decide +kernel
theorem dX7_readsItem_50 : decode cX7_readsItem 50 = .ok (.iconst 2, 1) := by decide +kernel
theorem dX7_readsItem_51 : decode cX7_readsItem 51 = .ok (.aload_n 0, 1) := by decide +kernel
theorem dX7_readsItem_52 : decode cX7_readsItem 52 = .ok (.getfield 115, 3) := by decide +kernel
theorem dX7_readsItem_55 : decode cX7_readsItem 55 = .ok (.imul, 1) := by decide +kernel
theorem dX7_readsItem_56 : decode cX7_readsItem 56 = .ok (.iadd, 1) := by decide +kernel
theorem dX7_readsItem_57 : decode cX7_readsItem 57 = .ok (.aload_n 0, 1) := by decide +kernel
theorem dX7_readsItem_58 : decode cX7_readsItem 58 = .ok (.iconst 1, 1) := by decide +kernel
theorem dX7_readsItem_59 : decode cX7_readsItem 59 = .ok (.aload_n 0, 1) := by decide +kernel
theorem dX7_readsItem_60 : decode cX7_readsItem 60 = .ok (.getfield 13, 3) := by decide +kernel
theorem dX7_readsItem_63 : decode cX7_readsItem 63 = .ok (.iconst 4, 1) := by decide +kernel
theorem dX7_readsItem_64 : decode cX7_readsItem 64 = .ok (.aload_n 0, 1) := by decide +kernel
theorem dX7_readsItem_65 : decode cX7_readsItem 65 = .ok (.getfield 115, 3) := by decide +kernel
theorem dX7_readsItem_68 : decode cX7_readsItem 68 = .ok (.iadd, 1) := by decide +kernel
theorem dX7_readsItem_69 : decode cX7_readsItem 69 = .ok (.iaload, 1) := by decide +kernel
theorem dX7_readsItem_70 : decode cX7_readsItem 70 = .ok (.invokevirtual 127, 3) := by decide +kernel
theorem dX7_readsItem_73 : decode cX7_readsItem 73 = .ok (.iastore, 1) := by decide +kernel
theorem dX7_readsItem_74 : decode cX7_readsItem 74 = .ok (.aload_n 0, 1) := by decide +kernel
theorem dX7_readsItem_75 : decode cX7_readsItem 75 = .ok (.dup, 1) := by decide +kernel
theorem dX7_readsItem_76 : decode cX7_readsItem 76 = .ok (.getfield 115, 3) := by decide +kernel
theorem dX7_readsItem_79 : decode cX7_readsItem 79 = .ok (.iconst 1, 1) := by decide +kernel
theorem dX7_readsItem_80 : decode cX7_readsItem 80 = .ok (.iadd, 1) := by decide +kernel
theorem dX7_readsItem_81 : decode cX7_readsItem 81 = .ok (.putfield 115, 3) := by decide +kernel
theorem dX7_readsItem_84 : decode cX7_readsItem 84 = .ok (.goto 139, 3) := by decide +kernel
theorem dX7_readsItem_87 : decode cX7_readsItem 87 = .ok (.iload_n 1, 1) := by decide +kernel
theorem dX7_readsItem_88 : decode cX7_readsItem 88 = .ok (.bipush 108, 2) := by decide +kernel
theorem dX7_readsItem_90 : decode cX7_readsItem 90 = .ok (.if_icmp .ne 84, 3) := by decide +kernel
theorem dX7_readsItem_93 : decode cX7_readsItem 93 = .ok (.iconst 0, 1) := by decide +kernel
theorem dX7_readsItem_94 : decode cX7_readsItem 94 = .ok (.istore_n 2, 1) := by decide +kernel
theorem dX7_readsItem_95 : decode cX7_readsItem 95 = .ok (.iload_n 2, 1) := by decide +kernel
theorem dX7_readsItem_96 : decode cX7_readsItem 96 = .ok (.aload_n 0, 1) := by decide +kernel
theorem dX7_readsItem_97 : decode cX7_readsItem 97 = .ok (.getfield 115, 3) := by decide +kernel
theorem dX7_readsItem_100 : decode cX7_readsItem 100 = .ok (.if_icmp .ge 61, 3) := by decide +kernel
theorem dX7_readsItem_103 : decode cX7_readsItem 103 = .ok (.aload_n 0, 1) := by decide +kernel
theorem dX7_readsItem_104 : decode cX7_readsItem 104 = .ok (.getfield 19, 3) := by decide +kernel
theorem dX7_readsItem_107 : decode cX7_readsItem 107 = .ok (.bipush 16, 2) := by decide +kernel
theorem dX7_readsItem_109 : decode cX7_readsItem 109 = .ok (.iconst 4, 1) := by decide +kernel
theorem dX7_readsItem_110 : decode cX7_readsItem 110 = .ok (.aload_n 0, 1) := by decide +kernel
theorem dX7_readsItem_111 : decode cX7_readsItem 111 = .ok (.getfield 118, 3) := by decide +kernel
theorem dX7_readsItem_114 : decode cX7_readsItem 114 = .ok (.imul, 1) := by decide +kernel
theorem dX7_readsItem_115 : decode cX7_readsItem 115 = .ok (.iadd, 1) := by decide +kernel
theorem dX7_readsItem_116 : decode cX7_readsItem 116 = .ok (.iload_n 2, 1) := by decide +kernel
theorem dX7_readsItem_117 : decode cX7_readsItem 117 = .ok (.iadd, 1) := by decide +kernel
theorem dX7_readsItem_118 : decode cX7_readsItem 118 = .ok (.aload_n 0, 1) := by decide +kernel
theorem dX7_readsItem_119 : decode cX7_readsItem 119 = .ok (.iconst 0, 1) := by decide +kernel
theorem dX7_readsItem_120 : decode cX7_readsItem 120 = .ok (.aload_n 0, 1) := by decide +kernel
theorem dX7_readsItem_121 : decode cX7_readsItem 121 = .ok (.getfield 13, 3) := by decide +kernel
theorem dX7_readsItem_124 : decode cX7_readsItem 124 = .ok (.iconst 4, 1) := by decide +kernel
theorem dX7_readsItem_125 : decode cX7_readsItem 125 = .ok (.iload_n 2, 1) := by decide +kernel
theorem dX7_readsItem_126 : decode cX7_readsItem 126 = .ok (.iadd, 1) := by decide +kernel
theorem dX7_readsItem_127 : decode cX7_readsItem 127 = .ok (.iaload, 1) := by decide +kernel
theorem dX7_readsItem_128 : decode cX7_readsItem 128 = .ok (.invokevirtual 127, 3) := by decide +kernel
theorem dX7_readsItem_131 : decode cX7_readsItem 131 = .ok (.iastore, 1) := by decide +kernel
theorem dX7_readsItem_132 : decode cX7_readsItem 132 = .ok (.aload_n 0, 1) := by decide +kernel
theorem dX7_readsItem_133 : decode cX7_readsItem 133 = .ok (.getfield 22, 3) := by decide +kernel
theorem dX7_readsItem_136 : decode cX7_readsItem 136 = .ok (.bipush 16, 2) := by decide +kernel
theorem dX7_readsItem_138 : decode cX7_readsItem 138 = .ok (.iconst 4, 1) := by decide +kernel
theorem dX7_readsItem_139 : decode cX7_readsItem 139 = .ok (.aload_n 0, 1) := by decide +kernel
theorem dX7_readsItem_140 : decode cX7_readsItem 140 = .ok (.getfield 118, 3) := by decide +kernel
theorem dX7_readsItem_143 : decode cX7_readsItem 143 = .ok (.imul, 1) := by decide +kernel
theorem dX7_readsItem_144 : decode cX7_readsItem 144 = .ok (.iadd, 1) := by decide +kernel
theorem dX7_readsItem_145 : decode cX7_readsItem 145 = .ok (.iload_n 2, 1) := by decide +kernel
theorem dX7_readsItem_146 : decode cX7_readsItem 146 = .ok (.iadd, 1) := by decide +kernel
theorem dX7_readsItem_147 : decode cX7_readsItem 147 = .ok (.aload_n 0, 1) := by decide +kernel
theorem dX7_readsItem_148 : decode cX7_readsItem 148 = .ok (.iconst 0, 1) := by decide +kernel
theorem dX7_readsItem_149 : decode cX7_readsItem 149 = .ok (.bipush 6, 2) := by decide +kernel
theorem dX7_readsItem_151 : decode cX7_readsItem 151 = .ok (.invokevirtual 127, 3) := by decide +kernel
theorem dX7_readsItem_154 : decode cX7_readsItem 154 = .ok (.iastore, 1) := by decide +kernel
theorem dX7_readsItem_155 : decode cX7_readsItem 155 = .ok (.iinc 2 1, 3) := by decide +kernel
theorem dX7_readsItem_158 : decode cX7_readsItem 158 = .ok (.goto (-63), 3) := by decide +kernel
theorem dX7_readsItem_161 : decode cX7_readsItem 161 = .ok (.aload_n 0, 1) := by decide +kernel
theorem dX7_readsItem_162 : decode cX7_readsItem 162 = .ok (.dup, 1) := by decide +kernel
theorem dX7_readsItem_163 : decode cX7_readsItem 163 = .ok (.getfield 118, 3) := by decide +kernel
theorem dX7_readsItem_166 : decode cX7_readsItem 166 = .ok (.iconst 1, 1) := by decide +kernel
theorem dX7_readsItem_167 : decode cX7_readsItem 167 = .ok (.iadd, 1) := by decide +kernel
theorem dX7_readsItem_168 : decode cX7_readsItem 168 = .ok (.putfield 118, 3) := by decide +kernel
theorem dX7_readsItem_171 : decode cX7_readsItem 171 = .ok (.goto 52, 3) := by decide +kernel
theorem dX7_readsItem_174 : decode cX7_readsItem 174 = .ok (.iload_n 1, 1) := by decide +kernel
theorem dX7_readsItem_175 : decode cX7_readsItem 175 = .ok (.bipush 100, 2) := by decide +kernel
theorem dX7_readsItem_177 : decode cX7_readsItem 177 = .ok (.if_icmp .ne 17, 3) := by decide +kernel
theorem dX7_readsItem_180 : decode cX7_readsItem 180 = .ok (.aload_n 0, 1) := by decide +kernel
theorem dX7_readsItem_181 : decode cX7_readsItem 181 = .ok (.aload_n 0, 1) := by decide +kernel
theorem dX7_readsItem_182 : decode cX7_readsItem 182 = .ok (.iconst 0, 1) := by decide +kernel
theorem dX7_readsItem_183 : decode cX7_readsItem 183 = .ok (.bipush 9, 2) := by decide +kernel
theorem dX7_readsItem_185 : decode cX7_readsItem 185 = .ok (.invokevirtual 127, 3) := by decide +kernel
theorem dX7_readsItem_188 : decode cX7_readsItem 188 = .ok (.putfield 124, 3) := by decide +kernel
theorem dX7_readsItem_191 : decode cX7_readsItem 191 = .ok (.goto 32, 3) := by decide +kernel
theorem dX7_readsItem_194 : decode cX7_readsItem 194 = .ok (.aload_n 0, 1) := by decide +kernel
theorem dX7_readsItem_195 : decode cX7_readsItem 195 = .ok (.getfield 25, 3) := by decide +kernel
theorem dX7_readsItem_198 : decode cX7_readsItem 198 = .ok (.bipush 8, 2) := by decide +kernel
theorem dX7_readsItem_200 : decode cX7_readsItem 200 = .ok (.aload_n 0, 1) := by decide +kernel
theorem dX7_readsItem_201 : decode cX7_readsItem 201 = .ok (.getfield 121, 3) := by decide +kernel
theorem dX7_readsItem_204 : decode cX7_readsItem 204 = .ok (.iadd, 1) := by decide +kernel
theorem dX7_readsItem_205 : decode cX7_readsItem 205 = .ok (.aload_n 0, 1) := by decide +kernel
theorem dX7_readsItem_206 : decode cX7_readsItem 206 = .ok (.iconst 0, 1) := by decide +kernel
theorem dX7_readsItem_207 : decode cX7_readsItem 207 = .ok (.bipush 60, 2) := by decide +kernel
theorem dX7_readsItem_209 : decode cX7_readsItem 209 = .ok (.invokevirtual 127, 3) := by decide +kernel
theorem dX7_readsItem_212 : decode cX7_readsItem 212 = .ok (.iastore, 1) := by decide +kernel
theorem dX7_readsItem_213 : decode cX7_readsItem 213 = .ok (.aload_n 0, 1) := by decide +kernel
theorem dX7_readsItem_214 : decode cX7_readsItem 214 = .ok (.dup, 1) := by decide +kernel
theorem dX7_readsItem_215 : decode cX7_readsItem 215 = .ok (.getfield 121, 3) := by decide +kernel
theorem dX7_readsItem_218 : decode cX7_readsItem 218 = .ok (.iconst 1, 1) := by decide +kernel
theorem dX7_readsItem_219 : decode cX7_readsItem 219 = .ok (.iadd, 1) := by decide +kernel
theorem dX7_readsItem_220 : decode cX7_readsItem 220 = .ok (.putfield 121, 3) := by decide +kernel
theorem dX7_readsItem_223 : decode cX7_readsItem 223 = .ok (.return_, 1) := by decide +kernel
theorem dX7_land_0 : decode cX7_land 0 = .ok (.aload_n 0, 1) := by decide +kernel
theorem dX7_land_1 : decode cX7_land 1 = .ok (.iconst 0, 1) := by decide +kernel
theorem dX7_land_2 : decode cX7_land 2 = .ok (.putfield 75, 3) := by decide +kernel
theorem dX7_land_5 : decode cX7_land 5 = .ok (.aload_n 0, 1) := by decide +kernel
theorem dX7_land_6 : decode cX7_land 6 = .ok (.iconst (-1), 1) := by decide +kernel
theorem dX7_land_7 : decode cX7_land 7 = .ok (.putfield 101, 3) := by decide +kernel
theorem dX7_land_10 : decode cX7_land 10 = .ok (.aload_n 0, 1) := by decide +kernel
theorem dX7_land_11 : decode cX7_land 11 = .ok (.iconst 0, 1) := by decide +kernel
theorem dX7_land_12 : decode cX7_land 12 = .ok (.putfield 85, 3) := by decide +kernel
theorem dX7_land_15 : decode cX7_land 15 = .ok (.iconst 0, 1) := by decide +kernel
theorem dX7_land_16 : decode cX7_land 16 = .ok (.istore_n 1, 1) := by decide +kernel
theorem dX7_land_17 : decode cX7_land 17 = .ok (.aload_n 0, 1) := by decide +kernel
theorem dX7_land_18 : decode cX7_land 18 = .ok (.iconst 0, 1) := by decide +kernel
theorem dX7_land_19 : decode cX7_land 19 = .ok (.putfield 115, 3) := by decide +kernel
theorem dX7_land_22 : decode cX7_land 22 = .ok (.aload_n 0, 1) := by decide +kernel
theorem dX7_land_23 : decode cX7_land 23 = .ok (.iconst 0, 1) := by decide +kernel
theorem dX7_land_24 : decode cX7_land 24 = .ok (.putfield 118, 3) := by decide +kernel
theorem dX7_land_27 : decode cX7_land 27 = .ok (.aload_n 0, 1) := by decide +kernel
theorem dX7_land_28 : decode cX7_land 28 = .ok (.iconst 0, 1) := by decide +kernel
theorem dX7_land_29 : decode cX7_land 29 = .ok (.putfield 121, 3) := by decide +kernel
theorem dX7_land_32 : decode cX7_land 32 = .ok (.aload_n 0, 1) := by decide +kernel
theorem dX7_land_33 : decode cX7_land 33 = .ok (.bipush (-9), 2) := by decide +kernel
theorem dX7_land_35 : decode cX7_land 35 = .ok (.putfield 124, 3) := by decide +kernel
theorem dX7_land_38 : decode cX7_land 38 = .ok (.aload_n 0, 1) := by decide +kernel
theorem dX7_land_39 : decode cX7_land 39 = .ok (.invokevirtual 108, 3) := by decide +kernel
theorem dX7_land_42 : decode cX7_land 42 = .ok (.aload_n 0, 1) := by decide +kernel
theorem dX7_land_43 : decode cX7_land 43 = .ok (.invokevirtual 104, 3) := by decide +kernel
theorem dX7_land_46 : decode cX7_land 46 = .ok (.ifCond .eq 71, 3) := by decide +kernel
theorem dX7_land_49 : decode cX7_land 49 = .ok (.aload_n 0, 1) := by decide +kernel
theorem dX7_land_50 : decode cX7_land 50 = .ok (.getfield 95, 3) := by decide +kernel
theorem dX7_land_53 : decode cX7_land 53 = .ok (.ifCond .eq 64, 3) := by decide +kernel
theorem dX7_land_56 : decode cX7_land 56 = .ok (.aload_n 0, 1) := by decide +kernel
theorem dX7_land_57 : decode cX7_land 57 = .ok (.aload_n 0, 1) := by decide +kernel
theorem dX7_land_58 : decode cX7_land 58 = .ok (.getfield 95, 3) := by decide +kernel
theorem dX7_land_61 : decode cX7_land 61 = .ok (.iconst 1, 1) := by decide +kernel
theorem dX7_land_62 : decode cX7_land 62 = .ok (.if_icmp .ne 14, 3) := by decide +kernel
theorem dX7_land_65 : decode cX7_land 65 = .ok (.aload_n 0, 1) := by decide +kernel
theorem dX7_land_66 : decode cX7_land 66 = .ok (.invokevirtual 131, 3) := by decide +kernel
theorem dX7_land_69 : decode cX7_land 69 = .ok (.ifCond .eq 7, 3) := by decide +kernel
theorem dX7_land_72 : decode cX7_land 72 = .ok (.iconst 1, 1) := by decide +kernel
theorem dX7_land_73 : decode cX7_land 73 = .ok (.goto 4, 3) := by decide +kernel
theorem dX7_land_76 : decode cX7_land 76 = .ok (.iconst 0, 1) := by decide +kernel
theorem dX7_land_77 : decode cX7_land 77 = .ok (.invokevirtual 111, 3) := by decide +kernel
theorem dX7_land_80 : decode cX7_land 80 = .ok (.istore_n 2, 1) := by decide +kernel
theorem dX7_land_81 : decode cX7_land 81 = .ok (.aload_n 0, 1) := by decide +kernel
theorem dX7_land_82 : decode cX7_land 82 = .ok (.invokevirtual 104, 3) := by decide +kernel
theorem dX7_land_85 : decode cX7_land 85 = .ok (.ifCond .eq 8, 3) := by decide +kernel
theorem dX7_land_88 : decode cX7_land 88 = .ok (.aload_n 0, 1) := by decide +kernel
theorem dX7_land_89 : decode cX7_land 89 = .ok (.iload_n 2, 1) := by decide +kernel
theorem dX7_land_90 : decode cX7_land 90 = .ok (.invokevirtual 134, 3) := by decide +kernel
theorem dX7_land_93 : decode cX7_land 93 = .ok (.aload_n 0, 1) := by decide +kernel
theorem dX7_land_94 : decode cX7_land 94 = .ok (.aload_n 0, 1) := by decide +kernel
theorem dX7_land_95 : decode cX7_land 95 = .ok (.getfield 95, 3) := by decide +kernel
theorem dX7_land_98 : decode cX7_land 98 = .ok (.iconst 3, 1) := by decide +kernel
theorem dX7_land_99 : decode cX7_land 99 = .ok (.if_icmp .ne 7, 3) := by decide +kernel
theorem dX7_land_102 : decode cX7_land 102 = .ok (.iconst 1, 1) := by decide +kernel
theorem dX7_land_103 : decode cX7_land 103 = .ok (.goto 4, 3) := by decide +kernel
theorem dX7_land_106 : decode cX7_land 106 = .ok (.iconst 0, 1) := by decide +kernel
theorem dX7_land_107 : decode cX7_land 107 = .ok (.invokevirtual 111, 3) := by decide +kernel
theorem dX7_land_110 : decode cX7_land 110 = .ok (.pop, 1) := by decide +kernel
theorem dX7_land_111 : decode cX7_land 111 = .ok (.iinc 1 1, 3) := by decide +kernel
theorem dX7_land_114 : decode cX7_land 114 = .ok (.goto (-72), 3) := by decide +kernel
theorem dX7_land_117 : decode cX7_land 117 = .ok (.aload_n 0, 1) := by decide +kernel
theorem dX7_land_118 : decode cX7_land 118 = .ok (.invokevirtual 104, 3) := by decide +kernel
theorem dX7_land_121 : decode cX7_land 121 = .ok (.ifCond .ne 11, 3) := by decide +kernel
theorem dX7_land_124 : decode cX7_land 124 = .ok (.bipush (-10), 2) := by decide +kernel
theorem dX7_land_126 : decode cX7_land 126 = .ok (.aload_n 0, 1) := by decide +kernel
theorem dX7_land_127 : decode cX7_land 127 = .ok (.getfield 101, 3) := by decide +kernel
theorem dX7_land_130 : decode cX7_land 130 = .ok (.isub, 1) := by decide +kernel
theorem dX7_land_131 : decode cX7_land 131 = .ok (.ireturn, 1) := by decide +kernel
theorem dX7_land_132 : decode cX7_land 132 = .ok (.aload_n 0, 1) := by decide +kernel
theorem dX7_land_133 : decode cX7_land 133 = .ok (.invokevirtual 138, 3) := by decide +kernel
theorem dX7_land_136 : decode cX7_land 136 = .ok (.iload_n 1, 1) := by decide +kernel
theorem dX7_land_137 : decode cX7_land 137 = .ok (.ireturn, 1) := by decide +kernel
theorem dX7_settles_0 : decode cX7_settles 0 = .ok (.aload_n 0, 1) := by decide +kernel
theorem dX7_settles_1 : decode cX7_settles 1 = .ok (.aload_n 0, 1) := by decide +kernel
theorem dX7_settles_2 : decode cX7_settles 2 = .ok (.getfield 115, 3) := by decide +kernel
theorem dX7_settles_5 : decode cX7_settles 5 = .ok (.putfield 141, 3) := by decide +kernel
theorem dX7_settles_8 : decode cX7_settles 8 = .ok (.aload_n 0, 1) := by decide +kernel
theorem dX7_settles_9 : decode cX7_settles 9 = .ok (.aload_n 0, 1) := by decide +kernel
theorem dX7_settles_10 : decode cX7_settles 10 = .ok (.getfield 118, 3) := by decide +kernel
theorem dX7_settles_13 : decode cX7_settles 13 = .ok (.putfield 144, 3) := by decide +kernel
theorem dX7_settles_16 : decode cX7_settles 16 = .ok (.aload_n 0, 1) := by decide +kernel
theorem dX7_settles_17 : decode cX7_settles 17 = .ok (.aload_n 0, 1) := by decide +kernel
theorem dX7_settles_18 : decode cX7_settles 18 = .ok (.getfield 121, 3) := by decide +kernel
theorem dX7_settles_21 : decode cX7_settles 21 = .ok (.putfield 147, 3) := by decide +kernel
theorem dX7_settles_24 : decode cX7_settles 24 = .ok (.aload_n 0, 1) := by decide +kernel
theorem dX7_settles_25 : decode cX7_settles 25 = .ok (.aload_n 0, 1) := by decide +kernel
theorem dX7_settles_26 : decode cX7_settles 26 = .ok (.getfield 124, 3) := by decide +kernel
theorem dX7_settles_29 : decode cX7_settles 29 = .ok (.bipush (-9), 2) := by decide +kernel
theorem dX7_settles_31 : decode cX7_settles 31 = .ok (.if_icmp .ne 7, 3) := by decide +kernel
theorem dX7_settles_34 : decode cX7_settles 34 = .ok (.iconst 2, 1) := by decide +kernel
theorem dX7_settles_35 : decode cX7_settles 35 = .ok (.goto 7, 3) := by decide +kernel
theorem dX7_settles_38 : decode cX7_settles 38 = .ok (.aload_n 0, 1) := by decide +kernel
theorem dX7_settles_39 : decode cX7_settles 39 = .ok (.getfield 124, 3) := by decide +kernel
theorem dX7_settles_42 : decode cX7_settles 42 = .ok (.putfield 71, 3) := by decide +kernel
theorem dX7_settles_45 : decode cX7_settles 45 = .ok (.iconst 0, 1) := by decide +kernel
theorem dX7_settles_46 : decode cX7_settles 46 = .ok (.istore_n 1, 1) := by decide +kernel
theorem dX7_settles_47 : decode cX7_settles 47 = .ok (.iload_n 1, 1) := by decide +kernel
theorem dX7_settles_48 : decode cX7_settles 48 = .ok (.iconst 4, 1) := by decide +kernel
theorem dX7_settles_49 : decode cX7_settles 49 = .ok (.if_icmp .ge 23, 3) := by decide +kernel
theorem dX7_settles_52 : decode cX7_settles 52 = .ok (.aload_n 0, 1) := by decide +kernel
theorem dX7_settles_53 : decode cX7_settles 53 = .ok (.getfield 13, 3) := by decide +kernel
theorem dX7_settles_56 : decode cX7_settles 56 = .ok (.iload_n 1, 1) := by decide +kernel
theorem dX7_settles_57 : decode cX7_settles 57 = .ok (.aload_n 0, 1) := by decide +kernel
theorem dX7_settles_58 : decode cX7_settles 58 = .ok (.getfield 13, 3) := by decide +kernel
theorem dX7_settles_61 : decode cX7_settles 61 = .ok (.iconst 4, 1) := by decide +kernel
theorem dX7_settles_62 : decode cX7_settles 62 = .ok (.iload_n 1, 1) := by decide +kernel
theorem dX7_settles_63 : decode cX7_settles 63 = .ok (.iadd, 1) := by decide +kernel
theorem dX7_settles_64 : decode cX7_settles 64 = .ok (.iaload, 1) := by decide +kernel
theorem dX7_settles_65 : decode cX7_settles 65 = .ok (.iastore, 1) := by decide +kernel
theorem dX7_settles_66 : decode cX7_settles 66 = .ok (.iinc 1 1, 3) := by decide +kernel
theorem dX7_settles_69 : decode cX7_settles 69 = .ok (.goto (-22), 3) := by decide +kernel
theorem dX7_settles_72 : decode cX7_settles 72 = .ok (.iconst 0, 1) := by decide +kernel
theorem dX7_settles_73 : decode cX7_settles 73 = .ok (.istore_n 1, 1) := by decide +kernel
theorem dX7_settles_74 : decode cX7_settles 74 = .ok (.iload_n 1, 1) := by decide +kernel
theorem dX7_settles_75 : decode cX7_settles 75 = .ok (.bipush 8, 2) := by decide +kernel
theorem dX7_settles_77 : decode cX7_settles 77 = .ok (.if_icmp .ge 51, 3) := by decide +kernel
theorem dX7_settles_80 : decode cX7_settles 80 = .ok (.aload_n 0, 1) := by decide +kernel
theorem dX7_settles_81 : decode cX7_settles 81 = .ok (.getfield 16, 3) := by decide +kernel
theorem dX7_settles_84 : decode cX7_settles 84 = .ok (.iload_n 1, 1) := by decide +kernel
theorem dX7_settles_85 : decode cX7_settles 85 = .ok (.aload_n 0, 1) := by decide +kernel
theorem dX7_settles_86 : decode cX7_settles 86 = .ok (.getfield 16, 3) := by decide +kernel
theorem dX7_settles_89 : decode cX7_settles 89 = .ok (.bipush 8, 2) := by decide +kernel
theorem dX7_settles_91 : decode cX7_settles 91 = .ok (.iload_n 1, 1) := by decide +kernel
theorem dX7_settles_92 : decode cX7_settles 92 = .ok (.iadd, 1) := by decide +kernel
theorem dX7_settles_93 : decode cX7_settles 93 = .ok (.iaload, 1) := by decide +kernel
theorem dX7_settles_94 : decode cX7_settles 94 = .ok (.iastore, 1) := by decide +kernel
theorem dX7_settles_95 : decode cX7_settles 95 = .ok (.aload_n 0, 1) := by decide +kernel
theorem dX7_settles_96 : decode cX7_settles 96 = .ok (.getfield 25, 3) := by decide +kernel
theorem dX7_settles_99 : decode cX7_settles 99 = .ok (.iload_n 1, 1) := by decide +kernel
theorem dX7_settles_100 : decode cX7_settles 100 = .ok (.aload_n 0, 1) := by decide +kernel
theorem dX7_settles_101 : decode cX7_settles 101 = .ok (.getfield 25, 3) := by decide +kernel
theorem dX7_settles_104 : decode cX7_settles 104 = .ok (.bipush 8, 2) := by decide +kernel
theorem dX7_settles_106 : decode cX7_settles 106 = .ok (.iload_n 1, 1) := by decide +kernel
theorem dX7_settles_107 : decode cX7_settles 107 = .ok (.iadd, 1) := by decide +kernel
theorem dX7_settles_108 : decode cX7_settles 108 = .ok (.iaload, 1) := by decide +kernel
theorem dX7_settles_109 : decode cX7_settles 109 = .ok (.iastore, 1) := by decide +kernel
theorem dX7_settles_110 : decode cX7_settles 110 = .ok (.aload_n 0, 1) := by decide +kernel
theorem dX7_settles_111 : decode cX7_settles 111 = .ok (.getfield 28, 3) := by decide +kernel
theorem dX7_settles_114 : decode cX7_settles 114 = .ok (.iload_n 1, 1) := by decide +kernel
theorem dX7_settles_115 : decode cX7_settles 115 = .ok (.aload_n 0, 1) := by decide +kernel
theorem dX7_settles_116 : decode cX7_settles 116 = .ok (.getfield 16, 3) := by decide +kernel
theorem dX7_settles_119 : decode cX7_settles 119 = .ok (.iload_n 1, 1) := by decide +kernel
theorem dX7_settles_120 : decode cX7_settles 120 = .ok (.iaload, 1) := by decide +kernel
theorem dX7_settles_121 : decode cX7_settles 121 = .ok (.iastore, 1) := by decide +kernel
theorem dX7_settles_122 : decode cX7_settles 122 = .ok (.iinc 1 1, 3) := by decide +kernel
theorem dX7_settles_125 : decode cX7_settles 125 = .ok (.goto (-51), 3) := by decide +kernel
theorem dX7_settles_128 : decode cX7_settles 128 = .ok (.iconst 0, 1) := by decide +kernel
theorem dX7_settles_129 : decode cX7_settles 129 = .ok (.istore_n 1, 1) := by decide +kernel
theorem dX7_settles_130 : decode cX7_settles 130 = .ok (.iload_n 1, 1) := by decide +kernel
theorem dX7_settles_131 : decode cX7_settles 131 = .ok (.bipush 16, 2) := by decide +kernel
theorem dX7_settles_133 : decode cX7_settles 133 = .ok (.if_icmp .ge 54, 3) := by decide +kernel
theorem dX7_settles_136 : decode cX7_settles 136 = .ok (.aload_n 0, 1) := by decide +kernel
theorem dX7_settles_137 : decode cX7_settles 137 = .ok (.getfield 19, 3) := by decide +kernel
theorem dX7_settles_140 : decode cX7_settles 140 = .ok (.iload_n 1, 1) := by decide +kernel
theorem dX7_settles_141 : decode cX7_settles 141 = .ok (.aload_n 0, 1) := by decide +kernel
theorem dX7_settles_142 : decode cX7_settles 142 = .ok (.getfield 19, 3) := by decide +kernel
theorem dX7_settles_145 : decode cX7_settles 145 = .ok (.bipush 16, 2) := by decide +kernel
theorem dX7_settles_147 : decode cX7_settles 147 = .ok (.iload_n 1, 1) := by decide +kernel
theorem dX7_settles_148 : decode cX7_settles 148 = .ok (.iadd, 1) := by decide +kernel
theorem dX7_settles_149 : decode cX7_settles 149 = .ok (.iaload, 1) := by decide +kernel
theorem dX7_settles_150 : decode cX7_settles 150 = .ok (.iastore, 1) := by decide +kernel
theorem dX7_settles_151 : decode cX7_settles 151 = .ok (.aload_n 0, 1) := by decide +kernel
theorem dX7_settles_152 : decode cX7_settles 152 = .ok (.getfield 22, 3) := by decide +kernel
theorem dX7_settles_155 : decode cX7_settles 155 = .ok (.iload_n 1, 1) := by decide +kernel
theorem dX7_settles_156 : decode cX7_settles 156 = .ok (.aload_n 0, 1) := by decide +kernel
theorem dX7_settles_157 : decode cX7_settles 157 = .ok (.getfield 22, 3) := by decide +kernel
theorem dX7_settles_160 : decode cX7_settles 160 = .ok (.bipush 16, 2) := by decide +kernel
theorem dX7_settles_162 : decode cX7_settles 162 = .ok (.iload_n 1, 1) := by decide +kernel
theorem dX7_settles_163 : decode cX7_settles 163 = .ok (.iadd, 1) := by decide +kernel
theorem dX7_settles_164 : decode cX7_settles 164 = .ok (.iaload, 1) := by decide +kernel
theorem dX7_settles_165 : decode cX7_settles 165 = .ok (.iastore, 1) := by decide +kernel
theorem dX7_settles_166 : decode cX7_settles 166 = .ok (.aload_n 0, 1) := by decide +kernel
theorem dX7_settles_167 : decode cX7_settles 167 = .ok (.getfield 28, 3) := by decide +kernel
theorem dX7_settles_170 : decode cX7_settles 170 = .ok (.bipush 8, 2) := by decide +kernel
theorem dX7_settles_172 : decode cX7_settles 172 = .ok (.iload_n 1, 1) := by decide +kernel
theorem dX7_settles_173 : decode cX7_settles 173 = .ok (.iadd, 1) := by decide +kernel
theorem dX7_settles_174 : decode cX7_settles 174 = .ok (.aload_n 0, 1) := by decide +kernel
theorem dX7_settles_175 : decode cX7_settles 175 = .ok (.getfield 19, 3) := by decide +kernel
theorem dX7_settles_178 : decode cX7_settles 178 = .ok (.iload_n 1, 1) := by decide +kernel
theorem dX7_settles_179 : decode cX7_settles 179 = .ok (.iaload, 1) := by decide +kernel
theorem dX7_settles_180 : decode cX7_settles 180 = .ok (.iastore, 1) := by decide +kernel
theorem dX7_settles_181 : decode cX7_settles 181 = .ok (.iinc 1 1, 3) := by decide +kernel
theorem dX7_settles_184 : decode cX7_settles 184 = .ok (.goto (-54), 3) := by decide +kernel
theorem dX7_settles_187 : decode cX7_settles 187 = .ok (.aload_n 0, 1) := by decide +kernel
theorem dX7_settles_188 : decode cX7_settles 188 = .ok (.getfield 28, 3) := by decide +kernel
theorem dX7_settles_191 : decode cX7_settles 191 = .ok (.bipush 24, 2) := by decide +kernel
theorem dX7_settles_193 : decode cX7_settles 193 = .ok (.iconst 0, 1) := by decide +kernel
theorem dX7_settles_194 : decode cX7_settles 194 = .ok (.iastore, 1) := by decide +kernel
theorem dX7_settles_195 : decode cX7_settles 195 = .ok (.aload_n 0, 1) := by decide +kernel
theorem dX7_settles_196 : decode cX7_settles 196 = .ok (.getfield 28, 3) := by decide +kernel
theorem dX7_settles_199 : decode cX7_settles 199 = .ok (.bipush 25, 2) := by decide +kernel
theorem dX7_settles_201 : decode cX7_settles 201 = .ok (.iconst 0, 1) := by decide +kernel
theorem dX7_settles_202 : decode cX7_settles 202 = .ok (.iastore, 1) := by decide +kernel
theorem dX7_settles_203 : decode cX7_settles 203 = .ok (.aload_n 0, 1) := by decide +kernel
theorem dX7_settles_204 : decode cX7_settles 204 = .ok (.iconst 0, 1) := by decide +kernel
theorem dX7_settles_205 : decode cX7_settles 205 = .ok (.putfield 82, 3) := by decide +kernel
theorem dX7_settles_208 : decode cX7_settles 208 = .ok (.aload_n 0, 1) := by decide +kernel
theorem dX7_settles_209 : decode cX7_settles 209 = .ok (.iconst 0, 1) := by decide +kernel
theorem dX7_settles_210 : decode cX7_settles 210 = .ok (.putfield 150, 3) := by decide +kernel
theorem dX7_settles_213 : decode cX7_settles 213 = .ok (.aload_n 0, 1) := by decide +kernel
theorem dX7_settles_214 : decode cX7_settles 214 = .ok (.iconst 0, 1) := by decide +kernel
theorem dX7_settles_215 : decode cX7_settles 215 = .ok (.putfield 153, 3) := by decide +kernel
theorem dX7_settles_218 : decode cX7_settles 218 = .ok (.aload_n 0, 1) := by decide +kernel
theorem dX7_settles_219 : decode cX7_settles 219 = .ok (.iconst 0, 1) := by decide +kernel
theorem dX7_settles_220 : decode cX7_settles 220 = .ok (.putfield 156, 3) := by decide +kernel
theorem dX7_settles_223 : decode cX7_settles 223 = .ok (.aload_n 0, 1) := by decide +kernel
theorem dX7_settles_224 : decode cX7_settles 224 = .ok (.getfield 37, 3) := by decide +kernel
theorem dX7_settles_227 : decode cX7_settles 227 = .ok (.iconst 0, 1) := by decide +kernel
theorem dX7_settles_228 : decode cX7_settles 228 = .ok (.iconst 0, 1) := by decide +kernel
theorem dX7_settles_229 : decode cX7_settles 229 = .ok (.bastore, 1) := by decide +kernel
theorem dX7_settles_230 : decode cX7_settles 230 = .ok (.aload_n 0, 1) := by decide +kernel
theorem dX7_settles_231 : decode cX7_settles 231 = .ok (.getfield 37, 3) := by decide +kernel
theorem dX7_settles_234 : decode cX7_settles 234 = .ok (.iconst 1, 1) := by decide +kernel
theorem dX7_settles_235 : decode cX7_settles 235 = .ok (.iconst 0, 1) := by decide +kernel
theorem dX7_settles_236 : decode cX7_settles 236 = .ok (.bastore, 1) := by decide +kernel
theorem dX7_settles_237 : decode cX7_settles 237 = .ok (.return_, 1) := by decide +kernel
theorem dX7_isScale_0 : decode cX7_isScale 0 = .ok (.iload_n 1, 1) := by decide +kernel
theorem dX7_isScale_1 : decode cX7_isScale 1 = .ok (.iconst 0, 1) := by decide +kernel
theorem dX7_isScale_2 : decode cX7_isScale 2 = .ok (.aload_n 0, 1) := by decide +kernel
theorem dX7_isScale_3 : decode cX7_isScale 3 = .ok (.getfield 141, 3) := by decide +kernel
theorem dX7_isScale_6 : decode cX7_isScale 6 = .ok (.iconst 1, 1) := by decide +kernel
theorem dX7_isScale_7 : decode cX7_isScale 7 = .ok (.isub, 1) := by decide +kernel
theorem dX7_isScale_8 : decode cX7_isScale 8 = .ok (.invokestatic 78, 3) := by decide +kernel
theorem dX7_isScale_11 : decode cX7_isScale 11 = .ok (.ireturn, 1) := by decide +kernel
theorem dX7_isLife_0 : decode cX7_isLife 0 = .ok (.iload_n 1, 1) := by decide +kernel
theorem dX7_isLife_1 : decode cX7_isLife 1 = .ok (.iconst 0, 1) := by decide +kernel
theorem dX7_isLife_2 : decode cX7_isLife 2 = .ok (.aload_n 0, 1) := by decide +kernel
theorem dX7_isLife_3 : decode cX7_isLife 3 = .ok (.getfield 144, 3) := by decide +kernel
theorem dX7_isLife_6 : decode cX7_isLife 6 = .ok (.iconst 1, 1) := by decide +kernel
theorem dX7_isLife_7 : decode cX7_isLife 7 = .ok (.isub, 1) := by decide +kernel
theorem dX7_isLife_8 : decode cX7_isLife 8 = .ok (.invokestatic 78, 3) := by decide +kernel
theorem dX7_isLife_11 : decode cX7_isLife 11 = .ok (.ireturn, 1) := by decide +kernel
theorem dX7_isPlace_0 : decode cX7_isPlace 0 = .ok (.iload_n 1, 1) := by decide +kernel
theorem dX7_isPlace_1 : decode cX7_isPlace 1 = .ok (.iconst 0, 1) := by decide +kernel
theorem dX7_isPlace_2 : decode cX7_isPlace 2 = .ok (.aload_n 0, 1) := by decide +kernel
theorem dX7_isPlace_3 : decode cX7_isPlace 3 = .ok (.getfield 147, 3) := by decide +kernel
theorem dX7_isPlace_6 : decode cX7_isPlace 6 = .ok (.iconst 1, 1) := by decide +kernel
theorem dX7_isPlace_7 : decode cX7_isPlace 7 = .ok (.isub, 1) := by decide +kernel
theorem dX7_isPlace_8 : decode cX7_isPlace 8 = .ok (.invokestatic 78, 3) := by decide +kernel
theorem dX7_isPlace_11 : decode cX7_isPlace 11 = .ok (.ireturn, 1) := by decide +kernel
theorem dX7_scale_0 : decode cX7_scale 0 = .ok (.aload_n 0, 1) := by decide +kernel
theorem dX7_scale_1 : decode cX7_scale 1 = .ok (.iconst 0, 1) := by decide +kernel
theorem dX7_scale_2 : decode cX7_scale 2 = .ok (.putfield 75, 3) := by decide +kernel
theorem dX7_scale_5 : decode cX7_scale 5 = .ok (.aload_n 0, 1) := by decide +kernel
theorem dX7_scale_6 : decode cX7_scale 6 = .ok (.iload_n 1, 1) := by decide +kernel
theorem dX7_scale_7 : decode cX7_scale 7 = .ok (.invokevirtual 159, 3) := by decide +kernel
theorem dX7_scale_10 : decode cX7_scale 10 = .ok (.ifCond .eq 12, 3) := by decide +kernel
theorem dX7_scale_13 : decode cX7_scale 13 = .ok (.iload_n 2, 1) := by decide +kernel
theorem dX7_scale_14 : decode cX7_scale 14 = .ok (.iconst 0, 1) := by decide +kernel
theorem dX7_scale_15 : decode cX7_scale 15 = .ok (.iconst 2, 1) := by decide +kernel
theorem dX7_scale_16 : decode cX7_scale 16 = .ok (.invokestatic 78, 3) := by decide +kernel
theorem dX7_scale_19 : decode cX7_scale 19 = .ok (.ifCond .ne 5, 3) := by decide +kernel
theorem dX7_scale_22 : decode cX7_scale 22 = .ok (.iconst (-1), 1) := by decide +kernel
theorem dX7_scale_23 : decode cX7_scale 23 = .ok (.ireturn, 1) := by decide +kernel
theorem dX7_scale_24 : decode cX7_scale 24 = .ok (.iload_n 2, 1) := by decide +kernel
theorem dX7_scale_25 : decode cX7_scale 25 = .ok (.iconst 1, 1) := by decide +kernel
theorem dX7_scale_26 : decode cX7_scale 26 = .ok (.if_icmp .ne 12, 3) := by decide +kernel
theorem dX7_scale_29 : decode cX7_scale 29 = .ok (.aload_n 0, 1) := by decide +kernel
theorem dX7_scale_30 : decode cX7_scale 30 = .ok (.getfield 13, 3) := by decide +kernel
theorem dX7_scale_33 : decode cX7_scale 33 = .ok (.iload_n 1, 1) := by decide +kernel
theorem dX7_scale_34 : decode cX7_scale 34 = .ok (.iaload, 1) := by decide +kernel
theorem dX7_scale_35 : decode cX7_scale 35 = .ok (.goto 15, 3) := by decide +kernel
theorem dX7_scale_38 : decode cX7_scale 38 = .ok (.aload_n 0, 1) := by decide +kernel
theorem dX7_scale_39 : decode cX7_scale 39 = .ok (.getfield 28, 3) := by decide +kernel
theorem dX7_scale_42 : decode cX7_scale 42 = .ok (.iconst 2, 1) := by decide +kernel
theorem dX7_scale_43 : decode cX7_scale 43 = .ok (.iload_n 1, 1) := by decide +kernel
theorem dX7_scale_44 : decode cX7_scale 44 = .ok (.imul, 1) := by decide +kernel
theorem dX7_scale_45 : decode cX7_scale 45 = .ok (.iload_n 2, 1) := by decide +kernel
theorem dX7_scale_46 : decode cX7_scale 46 = .ok (.iconst 2, 1) := by decide +kernel
theorem dX7_scale_47 : decode cX7_scale 47 = .ok (.idiv, 1) := by decide +kernel
theorem dX7_scale_48 : decode cX7_scale 48 = .ok (.iadd, 1) := by decide +kernel
theorem dX7_scale_49 : decode cX7_scale 49 = .ok (.iaload, 1) := by decide +kernel
theorem dX7_scale_50 : decode cX7_scale 50 = .ok (.ireturn, 1) := by decide +kernel
theorem dX7_endBy_0 : decode cX7_endBy 0 = .ok (.iload_n 0, 1) := by decide +kernel
theorem dX7_endBy_1 : decode cX7_endBy 1 = .ok (.ifCond .ne 14, 3) := by decide +kernel
theorem dX7_endBy_4 : decode cX7_endBy 4 = .ok (.iload_n 3, 1) := by decide +kernel
theorem dX7_endBy_5 : decode cX7_endBy 5 = .ok (.iload_n 1, 1) := by decide +kernel
theorem dX7_endBy_6 : decode cX7_endBy 6 = .ok (.if_icmp .ge 7, 3) := by decide +kernel
theorem dX7_endBy_9 : decode cX7_endBy 9 = .ok (.iconst 0, 1) := by decide +kernel
theorem dX7_endBy_10 : decode cX7_endBy 10 = .ok (.goto 4, 3) := by decide +kernel
theorem dX7_endBy_13 : decode cX7_endBy 13 = .ok (.iconst 1, 1) := by decide +kernel
theorem dX7_endBy_14 : decode cX7_endBy 14 = .ok (.ireturn, 1) := by decide +kernel
theorem dX7_endBy_15 : decode cX7_endBy 15 = .ok (.iload_n 0, 1) := by decide +kernel
theorem dX7_endBy_16 : decode cX7_endBy 16 = .ok (.iconst 3, 1) := by decide +kernel
theorem dX7_endBy_17 : decode cX7_endBy 17 = .ok (.if_icmp .ne 27, 3) := by decide +kernel
theorem dX7_endBy_20 : decode cX7_endBy 20 = .ok (.iconst 2, 1) := by decide +kernel
theorem dX7_endBy_21 : decode cX7_endBy 21 = .ok (.iload_n 3, 1) := by decide +kernel
theorem dX7_endBy_22 : decode cX7_endBy 22 = .ok (.imul, 1) := by decide +kernel
theorem dX7_endBy_23 : decode cX7_endBy 23 = .ok (.iload_n 2, 1) := by decide +kernel
theorem dX7_endBy_24 : decode cX7_endBy 24 = .ok (.if_icmp .ge 7, 3) := by decide +kernel
theorem dX7_endBy_27 : decode cX7_endBy 27 = .ok (.iconst 0, 1) := by decide +kernel
theorem dX7_endBy_28 : decode cX7_endBy 28 = .ok (.goto 15, 3) := by decide +kernel
theorem dX7_endBy_31 : decode cX7_endBy 31 = .ok (.iconst 2, 1) := by decide +kernel
theorem dX7_endBy_32 : decode cX7_endBy 32 = .ok (.iload_n 3, 1) := by decide +kernel
theorem dX7_endBy_33 : decode cX7_endBy 33 = .ok (.imul, 1) := by decide +kernel
theorem dX7_endBy_34 : decode cX7_endBy 34 = .ok (.iload_n 2, 1) := by decide +kernel
theorem dX7_endBy_35 : decode cX7_endBy 35 = .ok (.if_icmp .le 7, 3) := by decide +kernel
theorem dX7_endBy_38 : decode cX7_endBy 38 = .ok (.iconst 1, 1) := by decide +kernel
theorem dX7_endBy_39 : decode cX7_endBy 39 = .ok (.goto 4, 3) := by decide +kernel
theorem dX7_endBy_42 : decode cX7_endBy 42 = .ok (.iconst 2, 1) := by decide +kernel
theorem dX7_endBy_43 : decode cX7_endBy 43 = .ok (.ireturn, 1) := by decide +kernel
theorem dX7_endBy_44 : decode cX7_endBy 44 = .ok (.iload_n 3, 1) := by decide +kernel
theorem dX7_endBy_45 : decode cX7_endBy 45 = .ok (.ifCond .ne 7, 3) := by decide +kernel
theorem dX7_endBy_48 : decode cX7_endBy 48 = .ok (.iconst 0, 1) := by decide +kernel
theorem dX7_endBy_49 : decode cX7_endBy 49 = .ok (.goto 22, 3) := by decide +kernel
theorem dX7_endBy_52 : decode cX7_endBy 52 = .ok (.iload_n 3, 1) := by decide +kernel
theorem dX7_endBy_53 : decode cX7_endBy 53 = .ok (.iload_n 2, 1) := by decide +kernel
theorem dX7_endBy_54 : decode cX7_endBy 54 = .ok (.if_icmp .ne 7, 3) := by decide +kernel
theorem dX7_endBy_57 : decode cX7_endBy 57 = .ok (.iconst 1, 1) := by decide +kernel
theorem dX7_endBy_58 : decode cX7_endBy 58 = .ok (.goto 13, 3) := by decide +kernel
theorem dX7_endBy_61 : decode cX7_endBy 61 = .ok (.iload_n 0, 1) := by decide +kernel
theorem dX7_endBy_62 : decode cX7_endBy 62 = .ok (.iconst 1, 1) := by decide +kernel
theorem dX7_endBy_63 : decode cX7_endBy 63 = .ok (.if_icmp .ne 7, 3) := by decide +kernel
theorem dX7_endBy_66 : decode cX7_endBy 66 = .ok (.iconst 3, 1) := by decide +kernel
theorem dX7_endBy_67 : decode cX7_endBy 67 = .ok (.goto 4, 3) := by decide +kernel
theorem dX7_endBy_70 : decode cX7_endBy 70 = .ok (.iconst 2, 1) := by decide +kernel
theorem dX7_endBy_71 : decode cX7_endBy 71 = .ok (.ireturn, 1) := by decide +kernel
theorem dX7_endOf_0 : decode cX7_endOf 0 = .ok (.aload_n 1, 1) := by decide +kernel
theorem dX7_endOf_1 : decode cX7_endOf 1 = .ok (.iconst 2, 1) := by decide +kernel
theorem dX7_endOf_2 : decode cX7_endOf 2 = .ok (.iload_n 2, 1) := by decide +kernel
theorem dX7_endOf_3 : decode cX7_endOf 3 = .ok (.imul, 1) := by decide +kernel
theorem dX7_endOf_4 : decode cX7_endOf 4 = .ok (.iaload, 1) := by decide +kernel
theorem dX7_endOf_5 : decode cX7_endOf 5 = .ok (.aload_n 1, 1) := by decide +kernel
theorem dX7_endOf_6 : decode cX7_endOf 6 = .ok (.iconst 2, 1) := by decide +kernel
theorem dX7_endOf_7 : decode cX7_endOf 7 = .ok (.iload_n 2, 1) := by decide +kernel
theorem dX7_endOf_8 : decode cX7_endOf 8 = .ok (.imul, 1) := by decide +kernel
theorem dX7_endOf_9 : decode cX7_endOf 9 = .ok (.iconst 1, 1) := by decide +kernel
theorem dX7_endOf_10 : decode cX7_endOf 10 = .ok (.iadd, 1) := by decide +kernel
theorem dX7_endOf_11 : decode cX7_endOf 11 = .ok (.iaload, 1) := by decide +kernel
theorem dX7_endOf_12 : decode cX7_endOf 12 = .ok (.aload_n 0, 1) := by decide +kernel
theorem dX7_endOf_13 : decode cX7_endOf 13 = .ok (.getfield 13, 3) := by decide +kernel
theorem dX7_endOf_16 : decode cX7_endOf 16 = .ok (.iload_n 2, 1) := by decide +kernel
theorem dX7_endOf_17 : decode cX7_endOf 17 = .ok (.iaload, 1) := by decide +kernel
theorem dX7_endOf_18 : decode cX7_endOf 18 = .ok (.iload_n 3, 1) := by decide +kernel
theorem dX7_endOf_19 : decode cX7_endOf 19 = .ok (.invokestatic 163, 3) := by decide +kernel
theorem dX7_endOf_22 : decode cX7_endOf 22 = .ok (.ireturn, 1) := by decide +kernel
theorem dX7_endIn_0 : decode cX7_endIn 0 = .ok (.aload_n 0, 1) := by decide +kernel
theorem dX7_endIn_1 : decode cX7_endIn 1 = .ok (.aload_n 1, 1) := by decide +kernel
theorem dX7_endIn_2 : decode cX7_endIn 2 = .ok (.iload_n 3, 1) := by decide +kernel
theorem dX7_endIn_3 : decode cX7_endIn 3 = .ok (.aload_n 1, 1) := by decide +kernel
theorem dX7_endIn_4 : decode cX7_endIn 4 = .ok (.bipush 8, 2) := by decide +kernel
theorem dX7_endIn_6 : decode cX7_endIn 6 = .ok (.iconst 4, 1) := by decide +kernel
theorem dX7_endIn_7 : decode cX7_endIn 7 = .ok (.iload_n 2, 1) := by decide +kernel
theorem dX7_endIn_8 : decode cX7_endIn 8 = .ok (.imul, 1) := by decide +kernel
theorem dX7_endIn_9 : decode cX7_endIn 9 = .ok (.iadd, 1) := by decide +kernel
theorem dX7_endIn_10 : decode cX7_endIn 10 = .ok (.iload_n 3, 1) := by decide +kernel
theorem dX7_endIn_11 : decode cX7_endIn 11 = .ok (.iadd, 1) := by decide +kernel
theorem dX7_endIn_12 : decode cX7_endIn 12 = .ok (.iaload, 1) := by decide +kernel
theorem dX7_endIn_13 : decode cX7_endIn 13 = .ok (.invokevirtual 167, 3) := by decide +kernel
theorem dX7_endIn_16 : decode cX7_endIn 16 = .ok (.ireturn, 1) := by decide +kernel
theorem dX7_life_0 : decode cX7_life 0 = .ok (.aload_n 0, 1) := by decide +kernel
theorem dX7_life_1 : decode cX7_life 1 = .ok (.iconst 0, 1) := by decide +kernel
theorem dX7_life_2 : decode cX7_life 2 = .ok (.putfield 75, 3) := by decide +kernel
theorem dX7_life_5 : decode cX7_life 5 = .ok (.aload_n 0, 1) := by decide +kernel
theorem dX7_life_6 : decode cX7_life 6 = .ok (.iload_n 1, 1) := by decide +kernel
theorem dX7_life_7 : decode cX7_life 7 = .ok (.invokevirtual 171, 3) := by decide +kernel
theorem dX7_life_10 : decode cX7_life 10 = .ok (.ifCond .eq 20, 3) := by decide +kernel
theorem dX7_life_13 : decode cX7_life 13 = .ok (.aload_n 0, 1) := by decide +kernel
theorem dX7_life_14 : decode cX7_life 14 = .ok (.iload_n 2, 1) := by decide +kernel
theorem dX7_life_15 : decode cX7_life 15 = .ok (.invokevirtual 159, 3) := by decide +kernel
theorem dX7_life_18 : decode cX7_life 18 = .ok (.ifCond .eq 12, 3) := by decide +kernel
theorem dX7_life_21 : decode cX7_life 21 = .ok (.iload_n 3, 1) := by decide +kernel
theorem dX7_life_22 : decode cX7_life 22 = .ok (.iconst 0, 1) := by decide +kernel
theorem dX7_life_23 : decode cX7_life 23 = .ok (.iconst 2, 1) := by decide +kernel
theorem dX7_life_24 : decode cX7_life 24 = .ok (.invokestatic 78, 3) := by decide +kernel
theorem dX7_life_27 : decode cX7_life 27 = .ok (.ifCond .ne 5, 3) := by decide +kernel
theorem dX7_life_30 : decode cX7_life 30 = .ok (.iconst (-1), 1) := by decide +kernel
theorem dX7_life_31 : decode cX7_life 31 = .ok (.ireturn, 1) := by decide +kernel
theorem dX7_life_32 : decode cX7_life 32 = .ok (.iload_n 3, 1) := by decide +kernel
theorem dX7_life_33 : decode cX7_life 33 = .ok (.ifCond .ne 19, 3) := by decide +kernel
theorem dX7_life_36 : decode cX7_life 36 = .ok (.aload_n 0, 1) := by decide +kernel
theorem dX7_life_37 : decode cX7_life 37 = .ok (.getfield 28, 3) := by decide +kernel
theorem dX7_life_40 : decode cX7_life 40 = .ok (.bipush 8, 2) := by decide +kernel
theorem dX7_life_42 : decode cX7_life 42 = .ok (.iconst 4, 1) := by decide +kernel
theorem dX7_life_43 : decode cX7_life 43 = .ok (.iload_n 1, 1) := by decide +kernel
theorem dX7_life_44 : decode cX7_life 44 = .ok (.imul, 1) := by decide +kernel
theorem dX7_life_45 : decode cX7_life 45 = .ok (.iadd, 1) := by decide +kernel
theorem dX7_life_46 : decode cX7_life 46 = .ok (.iload_n 2, 1) := by decide +kernel
theorem dX7_life_47 : decode cX7_life 47 = .ok (.iadd, 1) := by decide +kernel
theorem dX7_life_48 : decode cX7_life 48 = .ok (.iaload, 1) := by decide +kernel
theorem dX7_life_49 : decode cX7_life 49 = .ok (.goto 31, 3) := by decide +kernel
theorem dX7_life_52 : decode cX7_life 52 = .ok (.iload_n 3, 1) := by decide +kernel
theorem dX7_life_53 : decode cX7_life 53 = .ok (.iconst 1, 1) := by decide +kernel
theorem dX7_life_54 : decode cX7_life 54 = .ok (.if_icmp .ne 16, 3) := by decide +kernel
theorem dX7_life_57 : decode cX7_life 57 = .ok (.aload_n 0, 1) := by decide +kernel
theorem dX7_life_58 : decode cX7_life 58 = .ok (.getfield 22, 3) := by decide +kernel
theorem dX7_life_61 : decode cX7_life 61 = .ok (.iconst 4, 1) := by decide +kernel
theorem dX7_life_62 : decode cX7_life 62 = .ok (.iload_n 1, 1) := by decide +kernel
theorem dX7_life_63 : decode cX7_life 63 = .ok (.imul, 1) := by decide +kernel
theorem dX7_life_64 : decode cX7_life 64 = .ok (.iload_n 2, 1) := by decide +kernel
theorem dX7_life_65 : decode cX7_life 65 = .ok (.iadd, 1) := by decide +kernel
theorem dX7_life_66 : decode cX7_life 66 = .ok (.iaload, 1) := by decide +kernel
theorem dX7_life_67 : decode cX7_life 67 = .ok (.goto 13, 3) := by decide +kernel
theorem dX7_life_70 : decode cX7_life 70 = .ok (.aload_n 0, 1) := by decide +kernel
theorem dX7_life_71 : decode cX7_life 71 = .ok (.aload_n 0, 1) := by decide +kernel
theorem dX7_life_72 : decode cX7_life 72 = .ok (.getfield 28, 3) := by decide +kernel
theorem dX7_life_75 : decode cX7_life 75 = .ok (.iload_n 1, 1) := by decide +kernel
theorem dX7_life_76 : decode cX7_life 76 = .ok (.iload_n 2, 1) := by decide +kernel
theorem dX7_life_77 : decode cX7_life 77 = .ok (.invokevirtual 174, 3) := by decide +kernel
theorem dX7_life_80 : decode cX7_life 80 = .ok (.ireturn, 1) := by decide +kernel
theorem dX7_end_0 : decode cX7_end 0 = .ok (.aload_n 0, 1) := by decide +kernel
theorem dX7_end_1 : decode cX7_end 1 = .ok (.iconst 0, 1) := by decide +kernel
theorem dX7_end_2 : decode cX7_end 2 = .ok (.putfield 75, 3) := by decide +kernel
theorem dX7_end_5 : decode cX7_end 5 = .ok (.aload_n 0, 1) := by decide +kernel
theorem dX7_end_6 : decode cX7_end 6 = .ok (.iload_n 1, 1) := by decide +kernel
theorem dX7_end_7 : decode cX7_end 7 = .ok (.invokevirtual 159, 3) := by decide +kernel
theorem dX7_end_10 : decode cX7_end 10 = .ok (.ifCond .eq 30, 3) := by decide +kernel
theorem dX7_end_13 : decode cX7_end 13 = .ok (.iload_n 2, 1) := by decide +kernel
theorem dX7_end_14 : decode cX7_end 14 = .ok (.iconst 0, 1) := by decide +kernel
theorem dX7_end_15 : decode cX7_end 15 = .ok (.aload_n 0, 1) := by decide +kernel
theorem dX7_end_16 : decode cX7_end 16 = .ok (.getfield 13, 3) := by decide +kernel
theorem dX7_end_19 : decode cX7_end 19 = .ok (.iload_n 1, 1) := by decide +kernel
theorem dX7_end_20 : decode cX7_end 20 = .ok (.iaload, 1) := by decide +kernel
theorem dX7_end_21 : decode cX7_end 21 = .ok (.invokestatic 78, 3) := by decide +kernel
theorem dX7_end_24 : decode cX7_end 24 = .ok (.ifCond .eq 16, 3) := by decide +kernel
theorem dX7_end_27 : decode cX7_end 27 = .ok (.aload_n 0, 1) := by decide +kernel
theorem dX7_end_28 : decode cX7_end 28 = .ok (.aload_n 0, 1) := by decide +kernel
theorem dX7_end_29 : decode cX7_end 29 = .ok (.getfield 28, 3) := by decide +kernel
theorem dX7_end_32 : decode cX7_end 32 = .ok (.iload_n 1, 1) := by decide +kernel
theorem dX7_end_33 : decode cX7_end 33 = .ok (.iload_n 2, 1) := by decide +kernel
theorem dX7_end_34 : decode cX7_end 34 = .ok (.invokevirtual 167, 3) := by decide +kernel
theorem dX7_end_37 : decode cX7_end 37 = .ok (.goto 4, 3) := by decide +kernel
theorem dX7_end_40 : decode cX7_end 40 = .ok (.iconst (-1), 1) := by decide +kernel
theorem dX7_end_41 : decode cX7_end 41 = .ok (.ireturn, 1) := by decide +kernel
theorem dX7_place_0 : decode cX7_place 0 = .ok (.aload_n 0, 1) := by decide +kernel
theorem dX7_place_1 : decode cX7_place 1 = .ok (.iconst 0, 1) := by decide +kernel
theorem dX7_place_2 : decode cX7_place 2 = .ok (.putfield 75, 3) := by decide +kernel
theorem dX7_place_5 : decode cX7_place 5 = .ok (.aload_n 0, 1) := by decide +kernel
theorem dX7_place_6 : decode cX7_place 6 = .ok (.iload_n 1, 1) := by decide +kernel
theorem dX7_place_7 : decode cX7_place 7 = .ok (.invokevirtual 177, 3) := by decide +kernel
theorem dX7_place_10 : decode cX7_place 10 = .ok (.ifCond .eq 12, 3) := by decide +kernel
theorem dX7_place_13 : decode cX7_place 13 = .ok (.aload_n 0, 1) := by decide +kernel
theorem dX7_place_14 : decode cX7_place 14 = .ok (.getfield 25, 3) := by decide +kernel
theorem dX7_place_17 : decode cX7_place 17 = .ok (.iload_n 1, 1) := by decide +kernel
theorem dX7_place_18 : decode cX7_place 18 = .ok (.iaload, 1) := by decide +kernel
theorem dX7_place_19 : decode cX7_place 19 = .ok (.goto 4, 3) := by decide +kernel
theorem dX7_place_22 : decode cX7_place 22 = .ok (.iconst (-1), 1) := by decide +kernel
theorem dX7_place_23 : decode cX7_place 23 = .ok (.ireturn, 1) := by decide +kernel
theorem dX7_held_0 : decode cX7_held 0 = .ok (.iload_n 0, 1) := by decide +kernel
theorem dX7_held_1 : decode cX7_held 1 = .ok (.ifCond .ge 7, 3) := by decide +kernel
theorem dX7_held_4 : decode cX7_held 4 = .ok (.iconst 0, 1) := by decide +kernel
theorem dX7_held_5 : decode cX7_held 5 = .ok (.goto 13, 3) := by decide +kernel
theorem dX7_held_8 : decode cX7_held 8 = .ok (.iload_n 0, 1) := by decide +kernel
theorem dX7_held_9 : decode cX7_held 9 = .ok (.iload_n 1, 1) := by decide +kernel
theorem dX7_held_10 : decode cX7_held 10 = .ok (.if_icmp .le 7, 3) := by decide +kernel
theorem dX7_held_13 : decode cX7_held 13 = .ok (.iload_n 1, 1) := by decide +kernel
theorem dX7_held_14 : decode cX7_held 14 = .ok (.goto 4, 3) := by decide +kernel
theorem dX7_held_17 : decode cX7_held 17 = .ok (.iload_n 0, 1) := by decide +kernel
theorem dX7_held_18 : decode cX7_held 18 = .ok (.ireturn, 1) := by decide +kernel
theorem dX7_goes_0 : decode cX7_goes 0 = .ok (.iconst 0, 1) := by decide +kernel
theorem dX7_goes_1 : decode cX7_goes 1 = .ok (.istore_n 2, 1) := by decide +kernel
theorem dX7_goes_2 : decode cX7_goes 2 = .ok (.iload_n 2, 1) := by decide +kernel
theorem dX7_goes_3 : decode cX7_goes 3 = .ok (.aload_n 0, 1) := by decide +kernel
theorem dX7_goes_4 : decode cX7_goes 4 = .ok (.getfield 144, 3) := by decide +kernel
theorem dX7_goes_7 : decode cX7_goes 7 = .ok (.if_icmp .ge 98, 3) := by decide +kernel
theorem dX7_goes_10 : decode cX7_goes 10 = .ok (.iconst 0, 1) := by decide +kernel
theorem dX7_goes_11 : decode cX7_goes 11 = .ok (.istore_n 3, 1) := by decide +kernel
theorem dX7_goes_12 : decode cX7_goes 12 = .ok (.iload_n 3, 1) := by decide +kernel
theorem dX7_goes_13 : decode cX7_goes 13 = .ok (.aload_n 0, 1) := by decide +kernel
theorem dX7_goes_14 : decode cX7_goes 14 = .ok (.getfield 141, 3) := by decide +kernel
theorem dX7_goes_17 : decode cX7_goes 17 = .ok (.if_icmp .ge 82, 3) := by decide +kernel
theorem dX7_goes_20 : decode cX7_goes 20 = .ok (.bipush 8, 2) := by decide +kernel
theorem dX7_goes_22 : decode cX7_goes 22 = .ok (.iconst 4, 1) := by decide +kernel
theorem dX7_goes_23 : decode cX7_goes 23 = .ok (.iload_n 2, 1) := by decide +kernel
theorem dX7_goes_24 : decode cX7_goes 24 = .ok (.imul, 1) := by decide +kernel
theorem dX7_goes_25 : decode cX7_goes 25 = .ok (.iadd, 1) := by decide +kernel
theorem dX7_goes_26 : decode cX7_goes 26 = .ok (.iload_n 3, 1) := by decide +kernel
theorem dX7_goes_27 : decode cX7_goes 27 = .ok (.iadd, 1) := by decide +kernel
theorem dX7_goes_28 : decode cX7_goes 28 = .ok (.istore 4, 2) := by decide +kernel
theorem dX7_goes_30 : decode cX7_goes 30 = .ok (.aload_n 0, 1) := by decide +kernel
theorem dX7_goes_31 : decode cX7_goes 31 = .ok (.aload_n 1, 1) := by decide +kernel
theorem dX7_goes_32 : decode cX7_goes 32 = .ok (.iload_n 2, 1) := by decide +kernel
theorem dX7_goes_33 : decode cX7_goes 33 = .ok (.iload_n 3, 1) := by decide +kernel
theorem dX7_goes_34 : decode cX7_goes 34 = .ok (.invokevirtual 174, 3) := by decide +kernel
theorem dX7_goes_37 : decode cX7_goes 37 = .ok (.istore 5, 2) := by decide +kernel
theorem dX7_goes_39 : decode cX7_goes 39 = .ok (.aload_n 1, 1) := by decide +kernel
theorem dX7_goes_40 : decode cX7_goes 40 = .ok (.iload 4, 2) := by decide +kernel
theorem dX7_goes_42 : decode cX7_goes 42 = .ok (.aload_n 1, 1) := by decide +kernel
theorem dX7_goes_43 : decode cX7_goes 43 = .ok (.iload 4, 2) := by decide +kernel
theorem dX7_goes_45 : decode cX7_goes 45 = .ok (.iaload, 1) := by decide +kernel
theorem dX7_goes_46 : decode cX7_goes 46 = .ok (.aload_n 0, 1) := by decide +kernel
theorem dX7_goes_47 : decode cX7_goes 47 = .ok (.getfield 22, 3) := by decide +kernel
theorem dX7_goes_50 : decode cX7_goes 50 = .ok (.iconst 4, 1) := by decide +kernel
theorem dX7_goes_51 : decode cX7_goes 51 = .ok (.iload_n 2, 1) := by decide +kernel
theorem dX7_goes_52 : decode cX7_goes 52 = .ok (.imul, 1) := by decide +kernel
theorem dX7_goes_53 : decode cX7_goes 53 = .ok (.iload_n 3, 1) := by decide +kernel
theorem dX7_goes_54 : decode cX7_goes 54 = .ok (.iadd, 1) := by decide +kernel
theorem dX7_goes_55 : decode cX7_goes 55 = .ok (.iaload, 1) := by decide +kernel
theorem dX7_goes_56 : decode cX7_goes 56 = .ok (.iadd, 1) := by decide +kernel
theorem dX7_goes_57 : decode cX7_goes 57 = .ok (.iconst 3, 1) := by decide +kernel
theorem dX7_goes_58 : decode cX7_goes 58 = .ok (.isub, 1) := by decide +kernel
theorem dX7_goes_59 : decode cX7_goes 59 = .ok (.aload_n 0, 1) := by decide +kernel
theorem dX7_goes_60 : decode cX7_goes 60 = .ok (.getfield 13, 3) := by decide +kernel
theorem dX7_goes_63 : decode cX7_goes 63 = .ok (.iload_n 3, 1) := by decide +kernel
theorem dX7_goes_64 : decode cX7_goes 64 = .ok (.iaload, 1) := by decide +kernel
theorem dX7_goes_65 : decode cX7_goes 65 = .ok (.invokestatic 180, 3) := by decide +kernel
theorem dX7_goes_68 : decode cX7_goes 68 = .ok (.iastore, 1) := by decide +kernel
theorem dX7_goes_69 : decode cX7_goes 69 = .ok (.aload_n 1, 1) := by decide +kernel
theorem dX7_goes_70 : decode cX7_goes 70 = .ok (.bipush 25, 2) := by decide +kernel
theorem dX7_goes_72 : decode cX7_goes 72 = .ok (.dup2, 1) := by decide +kernel
theorem dX7_goes_73 : decode cX7_goes 73 = .ok (.iaload, 1) := by decide +kernel
theorem dX7_goes_74 : decode cX7_goes 74 = .ok (.aload_n 0, 1) := by decide +kernel
theorem dX7_goes_75 : decode cX7_goes 75 = .ok (.aload_n 1, 1) := by decide +kernel
theorem dX7_goes_76 : decode cX7_goes 76 = .ok (.iload_n 2, 1) := by decide +kernel
theorem dX7_goes_77 : decode cX7_goes 77 = .ok (.iload_n 3, 1) := by decide +kernel
theorem dX7_goes_78 : decode cX7_goes 78 = .ok (.invokevirtual 174, 3) := by decide +kernel
theorem dX7_goes_81 : decode cX7_goes 81 = .ok (.iload 5, 2) := by decide +kernel
theorem dX7_goes_83 : decode cX7_goes 83 = .ok (.if_icmp .ne 7, 3) := by decide +kernel
theorem dX7_goes_86 : decode cX7_goes 86 = .ok (.iconst 0, 1) := by decide +kernel
theorem dX7_goes_87 : decode cX7_goes 87 = .ok (.goto 4, 3) := by decide +kernel
theorem dX7_goes_90 : decode cX7_goes 90 = .ok (.iconst 1, 1) := by decide +kernel
theorem dX7_goes_91 : decode cX7_goes 91 = .ok (.iadd, 1) := by decide +kernel
theorem dX7_goes_92 : decode cX7_goes 92 = .ok (.iastore, 1) := by decide +kernel
theorem dX7_goes_93 : decode cX7_goes 93 = .ok (.iinc 3 1, 3) := by decide +kernel
theorem dX7_goes_96 : decode cX7_goes 96 = .ok (.goto (-84), 3) := by decide +kernel
theorem dX7_goes_99 : decode cX7_goes 99 = .ok (.iinc 2 1, 3) := by decide +kernel
theorem dX7_goes_102 : decode cX7_goes 102 = .ok (.goto (-100), 3) := by decide +kernel
theorem dX7_goes_105 : decode cX7_goes 105 = .ok (.aload_n 1, 1) := by decide +kernel
theorem dX7_goes_106 : decode cX7_goes 106 = .ok (.bipush 24, 2) := by decide +kernel
theorem dX7_goes_108 : decode cX7_goes 108 = .ok (.dup2, 1) := by decide +kernel
theorem dX7_goes_109 : decode cX7_goes 109 = .ok (.iaload, 1) := by decide +kernel
theorem dX7_goes_110 : decode cX7_goes 110 = .ok (.iconst 1, 1) := by decide +kernel
theorem dX7_goes_111 : decode cX7_goes 111 = .ok (.iadd, 1) := by decide +kernel
theorem dX7_goes_112 : decode cX7_goes 112 = .ok (.iastore, 1) := by decide +kernel
theorem dX7_goes_113 : decode cX7_goes 113 = .ok (.return_, 1) := by decide +kernel
theorem dX7_notes_0 : decode cX7_notes 0 = .ok (.aload_n 0, 1) := by decide +kernel
theorem dX7_notes_1 : decode cX7_notes 1 = .ok (.getfield 150, 3) := by decide +kernel
theorem dX7_notes_4 : decode cX7_notes 4 = .ok (.bipush 10, 2) := by decide +kernel
theorem dX7_notes_6 : decode cX7_notes 6 = .ok (.if_icmp .ne 39, 3) := by decide +kernel
theorem dX7_notes_9 : decode cX7_notes 9 = .ok (.iconst 0, 1) := by decide +kernel
theorem dX7_notes_10 : decode cX7_notes 10 = .ok (.istore_n 1, 1) := by decide +kernel
theorem dX7_notes_11 : decode cX7_notes 11 = .ok (.iload_n 1, 1) := by decide +kernel
theorem dX7_notes_12 : decode cX7_notes 12 = .ok (.sipush 234, 3) := by decide +kernel
theorem dX7_notes_15 : decode cX7_notes 15 = .ok (.if_icmp .ge 24, 3) := by decide +kernel
theorem dX7_notes_18 : decode cX7_notes 18 = .ok (.aload_n 0, 1) := by decide +kernel
theorem dX7_notes_19 : decode cX7_notes 19 = .ok (.getfield 41, 3) := by decide +kernel
theorem dX7_notes_22 : decode cX7_notes 22 = .ok (.iload_n 1, 1) := by decide +kernel
theorem dX7_notes_23 : decode cX7_notes 23 = .ok (.aload_n 0, 1) := by decide +kernel
theorem dX7_notes_24 : decode cX7_notes 24 = .ok (.getfield 41, 3) := by decide +kernel
theorem dX7_notes_27 : decode cX7_notes 27 = .ok (.iload_n 1, 1) := by decide +kernel
theorem dX7_notes_28 : decode cX7_notes 28 = .ok (.bipush 26, 2) := by decide +kernel
theorem dX7_notes_30 : decode cX7_notes 30 = .ok (.iadd, 1) := by decide +kernel
theorem dX7_notes_31 : decode cX7_notes 31 = .ok (.iaload, 1) := by decide +kernel
theorem dX7_notes_32 : decode cX7_notes 32 = .ok (.iastore, 1) := by decide +kernel
theorem dX7_notes_33 : decode cX7_notes 33 = .ok (.iinc 1 1, 3) := by decide +kernel
theorem dX7_notes_36 : decode cX7_notes 36 = .ok (.goto (-25), 3) := by decide +kernel
theorem dX7_notes_39 : decode cX7_notes 39 = .ok (.aload_n 0, 1) := by decide +kernel
theorem dX7_notes_40 : decode cX7_notes 40 = .ok (.bipush 9, 2) := by decide +kernel
theorem dX7_notes_42 : decode cX7_notes 42 = .ok (.putfield 150, 3) := by decide +kernel
theorem dX7_notes_45 : decode cX7_notes 45 = .ok (.iconst 0, 1) := by decide +kernel
theorem dX7_notes_46 : decode cX7_notes 46 = .ok (.istore_n 1, 1) := by decide +kernel
theorem dX7_notes_47 : decode cX7_notes 47 = .ok (.iload_n 1, 1) := by decide +kernel
theorem dX7_notes_48 : decode cX7_notes 48 = .ok (.bipush 26, 2) := by decide +kernel
theorem dX7_notes_50 : decode cX7_notes 50 = .ok (.if_icmp .ge 29, 3) := by decide +kernel
theorem dX7_notes_53 : decode cX7_notes 53 = .ok (.aload_n 0, 1) := by decide +kernel
theorem dX7_notes_54 : decode cX7_notes 54 = .ok (.getfield 41, 3) := by decide +kernel
theorem dX7_notes_57 : decode cX7_notes 57 = .ok (.bipush 26, 2) := by decide +kernel
theorem dX7_notes_59 : decode cX7_notes 59 = .ok (.aload_n 0, 1) := by decide +kernel
theorem dX7_notes_60 : decode cX7_notes 60 = .ok (.getfield 150, 3) := by decide +kernel
theorem dX7_notes_63 : decode cX7_notes 63 = .ok (.imul, 1) := by decide +kernel
theorem dX7_notes_64 : decode cX7_notes 64 = .ok (.iload_n 1, 1) := by decide +kernel
theorem dX7_notes_65 : decode cX7_notes 65 = .ok (.iadd, 1) := by decide +kernel
theorem dX7_notes_66 : decode cX7_notes 66 = .ok (.aload_n 0, 1) := by decide +kernel
theorem dX7_notes_67 : decode cX7_notes 67 = .ok (.getfield 28, 3) := by decide +kernel
theorem dX7_notes_70 : decode cX7_notes 70 = .ok (.iload_n 1, 1) := by decide +kernel
theorem dX7_notes_71 : decode cX7_notes 71 = .ok (.iaload, 1) := by decide +kernel
theorem dX7_notes_72 : decode cX7_notes 72 = .ok (.iastore, 1) := by decide +kernel
theorem dX7_notes_73 : decode cX7_notes 73 = .ok (.iinc 1 1, 3) := by decide +kernel
theorem dX7_notes_76 : decode cX7_notes 76 = .ok (.goto (-29), 3) := by decide +kernel
theorem dX7_notes_79 : decode cX7_notes 79 = .ok (.aload_n 0, 1) := by decide +kernel
theorem dX7_notes_80 : decode cX7_notes 80 = .ok (.dup, 1) := by decide +kernel
theorem dX7_notes_81 : decode cX7_notes 81 = .ok (.getfield 150, 3) := by decide +kernel
theorem dX7_notes_84 : decode cX7_notes 84 = .ok (.iconst 1, 1) := by decide +kernel
theorem dX7_notes_85 : decode cX7_notes 85 = .ok (.iadd, 1) := by decide +kernel
theorem dX7_notes_86 : decode cX7_notes 86 = .ok (.putfield 150, 3) := by decide +kernel
theorem dX7_notes_89 : decode cX7_notes 89 = .ok (.return_, 1) := by decide +kernel
theorem dX7_passes_0 : decode cX7_passes 0 = .ok (.aload_n 0, 1) := by decide +kernel
theorem dX7_passes_1 : decode cX7_passes 1 = .ok (.iconst 0, 1) := by decide +kernel
theorem dX7_passes_2 : decode cX7_passes 2 = .ok (.putfield 75, 3) := by decide +kernel
theorem dX7_passes_5 : decode cX7_passes 5 = .ok (.iload_n 1, 1) := by decide +kernel
theorem dX7_passes_6 : decode cX7_passes 6 = .ok (.iconst 1, 1) := by decide +kernel
theorem dX7_passes_7 : decode cX7_passes 7 = .ok (.bipush 30, 2) := by decide +kernel
theorem dX7_passes_9 : decode cX7_passes 9 = .ok (.invokestatic 78, 3) := by decide +kernel
theorem dX7_passes_12 : decode cX7_passes 12 = .ok (.ifCond .ne 5, 3) := by decide +kernel
theorem dX7_passes_15 : decode cX7_passes 15 = .ok (.iconst (-1), 1) := by decide +kernel
theorem dX7_passes_16 : decode cX7_passes 16 = .ok (.ireturn, 1) := by decide +kernel
theorem dX7_passes_17 : decode cX7_passes 17 = .ok (.aload_n 0, 1) := by decide +kernel
theorem dX7_passes_18 : decode cX7_passes 18 = .ok (.getfield 28, 3) := by decide +kernel
theorem dX7_passes_21 : decode cX7_passes 21 = .ok (.bipush 24, 2) := by decide +kernel
theorem dX7_passes_23 : decode cX7_passes 23 = .ok (.iaload, 1) := by decide +kernel
theorem dX7_passes_24 : decode cX7_passes 24 = .ok (.iload_n 1, 1) := by decide +kernel
theorem dX7_passes_25 : decode cX7_passes 25 = .ok (.iadd, 1) := by decide +kernel
theorem dX7_passes_26 : decode cX7_passes 26 = .ok (.bipush 99, 2) := by decide +kernel
theorem dX7_passes_28 : decode cX7_passes 28 = .ok (.if_icmp .le 6, 3) := by decide +kernel
theorem dX7_passes_31 : decode cX7_passes 31 = .ok (.bipush (-2), 2) := by decide +kernel
theorem dX7_passes_33 : decode cX7_passes 33 = .ok (.ireturn, 1) := by decide +kernel
theorem dX7_passes_34 : decode cX7_passes 34 = .ok (.aload_n 0, 1) := by decide +kernel
theorem dX7_passes_35 : decode cX7_passes 35 = .ok (.invokevirtual 183, 3) := by decide +kernel
theorem dX7_passes_38 : decode cX7_passes 38 = .ok (.iconst 0, 1) := by decide +kernel
theorem dX7_passes_39 : decode cX7_passes 39 = .ok (.istore_n 2, 1) := by decide +kernel
theorem dX7_passes_40 : decode cX7_passes 40 = .ok (.iload_n 2, 1) := by decide +kernel
theorem dX7_passes_41 : decode cX7_passes 41 = .ok (.iload_n 1, 1) := by decide +kernel
theorem dX7_passes_42 : decode cX7_passes 42 = .ok (.if_icmp .ge 17, 3) := by decide +kernel
theorem dX7_passes_45 : decode cX7_passes 45 = .ok (.aload_n 0, 1) := by decide +kernel
theorem dX7_passes_46 : decode cX7_passes 46 = .ok (.aload_n 0, 1) := by decide +kernel
theorem dX7_passes_47 : decode cX7_passes 47 = .ok (.getfield 28, 3) := by decide +kernel
theorem dX7_passes_50 : decode cX7_passes 50 = .ok (.invokevirtual 186, 3) := by decide +kernel
theorem dX7_passes_53 : decode cX7_passes 53 = .ok (.iinc 2 1, 3) := by decide +kernel
theorem dX7_passes_56 : decode cX7_passes 56 = .ok (.goto (-16), 3) := by decide +kernel
theorem dX7_passes_59 : decode cX7_passes 59 = .ok (.aload_n 0, 1) := by decide +kernel
theorem dX7_passes_60 : decode cX7_passes 60 = .ok (.getfield 28, 3) := by decide +kernel
theorem dX7_passes_63 : decode cX7_passes 63 = .ok (.bipush 24, 2) := by decide +kernel
theorem dX7_passes_65 : decode cX7_passes 65 = .ok (.iaload, 1) := by decide +kernel
theorem dX7_passes_66 : decode cX7_passes 66 = .ok (.ireturn, 1) := by decide +kernel
theorem dX7_changes_0 : decode cX7_changes 0 = .ok (.aload_n 0, 1) := by decide +kernel
theorem dX7_changes_1 : decode cX7_changes 1 = .ok (.iconst 0, 1) := by decide +kernel
theorem dX7_changes_2 : decode cX7_changes 2 = .ok (.putfield 75, 3) := by decide +kernel
theorem dX7_changes_5 : decode cX7_changes 5 = .ok (.aload_n 0, 1) := by decide +kernel
theorem dX7_changes_6 : decode cX7_changes 6 = .ok (.iload_n 1, 1) := by decide +kernel
theorem dX7_changes_7 : decode cX7_changes 7 = .ok (.invokevirtual 171, 3) := by decide +kernel
theorem dX7_changes_10 : decode cX7_changes 10 = .ok (.ifCond .eq 22, 3) := by decide +kernel
theorem dX7_changes_13 : decode cX7_changes 13 = .ok (.aload_n 0, 1) := by decide +kernel
theorem dX7_changes_14 : decode cX7_changes 14 = .ok (.iload_n 2, 1) := by decide +kernel
theorem dX7_changes_15 : decode cX7_changes 15 = .ok (.invokevirtual 159, 3) := by decide +kernel
theorem dX7_changes_18 : decode cX7_changes 18 = .ok (.ifCond .eq 14, 3) := by decide +kernel
theorem dX7_changes_21 : decode cX7_changes 21 = .ok (.iload_n 3, 1) := by decide +kernel
theorem dX7_changes_22 : decode cX7_changes 22 = .ok (.bipush (-9), 2) := by decide +kernel
theorem dX7_changes_24 : decode cX7_changes 24 = .ok (.bipush 9, 2) := by decide +kernel
theorem dX7_changes_26 : decode cX7_changes 26 = .ok (.invokestatic 78, 3) := by decide +kernel
theorem dX7_changes_29 : decode cX7_changes 29 = .ok (.ifCond .ne 5, 3) := by decide +kernel
theorem dX7_changes_32 : decode cX7_changes 32 = .ok (.iconst (-1), 1) := by decide +kernel
theorem dX7_changes_33 : decode cX7_changes 33 = .ok (.ireturn, 1) := by decide +kernel
theorem dX7_changes_34 : decode cX7_changes 34 = .ok (.aload_n 0, 1) := by decide +kernel
theorem dX7_changes_35 : decode cX7_changes 35 = .ok (.invokevirtual 183, 3) := by decide +kernel
theorem dX7_changes_38 : decode cX7_changes 38 = .ok (.bipush 8, 2) := by decide +kernel
theorem dX7_changes_40 : decode cX7_changes 40 = .ok (.iconst 4, 1) := by decide +kernel
theorem dX7_changes_41 : decode cX7_changes 41 = .ok (.iload_n 1, 1) := by decide +kernel
theorem dX7_changes_42 : decode cX7_changes 42 = .ok (.imul, 1) := by decide +kernel
theorem dX7_changes_43 : decode cX7_changes 43 = .ok (.iadd, 1) := by decide +kernel
theorem dX7_changes_44 : decode cX7_changes 44 = .ok (.iload_n 2, 1) := by decide +kernel
theorem dX7_changes_45 : decode cX7_changes 45 = .ok (.iadd, 1) := by decide +kernel
theorem dX7_changes_46 : decode cX7_changes 46 = .ok (.istore 4, 2) := by decide +kernel
theorem dX7_changes_48 : decode cX7_changes 48 = .ok (.aload_n 0, 1) := by decide +kernel
theorem dX7_changes_49 : decode cX7_changes 49 = .ok (.getfield 28, 3) := by decide +kernel
theorem dX7_changes_52 : decode cX7_changes 52 = .ok (.iload 4, 2) := by decide +kernel
theorem dX7_changes_54 : decode cX7_changes 54 = .ok (.aload_n 0, 1) := by decide +kernel
theorem dX7_changes_55 : decode cX7_changes 55 = .ok (.getfield 28, 3) := by decide +kernel
theorem dX7_changes_58 : decode cX7_changes 58 = .ok (.iload 4, 2) := by decide +kernel
theorem dX7_changes_60 : decode cX7_changes 60 = .ok (.iaload, 1) := by decide +kernel
theorem dX7_changes_61 : decode cX7_changes 61 = .ok (.iload_n 3, 1) := by decide +kernel
theorem dX7_changes_62 : decode cX7_changes 62 = .ok (.iadd, 1) := by decide +kernel
theorem dX7_changes_63 : decode cX7_changes 63 = .ok (.aload_n 0, 1) := by decide +kernel
theorem dX7_changes_64 : decode cX7_changes 64 = .ok (.getfield 13, 3) := by decide +kernel
theorem dX7_changes_67 : decode cX7_changes 67 = .ok (.iload_n 2, 1) := by decide +kernel
theorem dX7_changes_68 : decode cX7_changes 68 = .ok (.iaload, 1) := by decide +kernel
theorem dX7_changes_69 : decode cX7_changes 69 = .ok (.invokestatic 180, 3) := by decide +kernel
theorem dX7_changes_72 : decode cX7_changes 72 = .ok (.iastore, 1) := by decide +kernel
theorem dX7_changes_73 : decode cX7_changes 73 = .ok (.aload_n 0, 1) := by decide +kernel
theorem dX7_changes_74 : decode cX7_changes 74 = .ok (.getfield 28, 3) := by decide +kernel
theorem dX7_changes_77 : decode cX7_changes 77 = .ok (.iload 4, 2) := by decide +kernel
theorem dX7_changes_79 : decode cX7_changes 79 = .ok (.iaload, 1) := by decide +kernel
theorem dX7_changes_80 : decode cX7_changes 80 = .ok (.ireturn, 1) := by decide +kernel
theorem dX7_isLaw_0 : decode cX7_isLaw 0 = .ok (.aload_n 0, 1) := by decide +kernel
theorem dX7_isLaw_1 : decode cX7_isLaw 1 = .ok (.iload_n 1, 1) := by decide +kernel
theorem dX7_isLaw_2 : decode cX7_isLaw 2 = .ok (.invokevirtual 159, 3) := by decide +kernel
theorem dX7_isLaw_5 : decode cX7_isLaw 5 = .ok (.ifCond .eq 30, 3) := by decide +kernel
theorem dX7_isLaw_8 : decode cX7_isLaw 8 = .ok (.iload_n 2, 1) := by decide +kernel
theorem dX7_isLaw_9 : decode cX7_isLaw 9 = .ok (.iconst 0, 1) := by decide +kernel
theorem dX7_isLaw_10 : decode cX7_isLaw 10 = .ok (.iconst 3, 1) := by decide +kernel
theorem dX7_isLaw_11 : decode cX7_isLaw 11 = .ok (.invokestatic 78, 3) := by decide +kernel
theorem dX7_isLaw_14 : decode cX7_isLaw 14 = .ok (.ifCond .eq 21, 3) := by decide +kernel
theorem dX7_isLaw_17 : decode cX7_isLaw 17 = .ok (.iload_n 3, 1) := by decide +kernel
theorem dX7_isLaw_18 : decode cX7_isLaw 18 = .ok (.iconst 1, 1) := by decide +kernel
theorem dX7_isLaw_19 : decode cX7_isLaw 19 = .ok (.aload_n 0, 1) := by decide +kernel
theorem dX7_isLaw_20 : decode cX7_isLaw 20 = .ok (.getfield 13, 3) := by decide +kernel
theorem dX7_isLaw_23 : decode cX7_isLaw 23 = .ok (.iload_n 1, 1) := by decide +kernel
theorem dX7_isLaw_24 : decode cX7_isLaw 24 = .ok (.iaload, 1) := by decide +kernel
theorem dX7_isLaw_25 : decode cX7_isLaw 25 = .ok (.invokestatic 78, 3) := by decide +kernel
theorem dX7_isLaw_28 : decode cX7_isLaw 28 = .ok (.ifCond .eq 7, 3) := by decide +kernel
theorem dX7_isLaw_31 : decode cX7_isLaw 31 = .ok (.iconst 1, 1) := by decide +kernel
theorem dX7_isLaw_32 : decode cX7_isLaw 32 = .ok (.goto 4, 3) := by decide +kernel
theorem dX7_isLaw_35 : decode cX7_isLaw 35 = .ok (.iconst 0, 1) := by decide +kernel
theorem dX7_isLaw_36 : decode cX7_isLaw 36 = .ok (.ireturn, 1) := by decide +kernel
theorem dX7_unlawfulOn_0 : decode cX7_unlawfulOn 0 = .ok (.iconst 0, 1) := by decide +kernel
theorem dX7_unlawfulOn_1 : decode cX7_unlawfulOn 1 = .ok (.istore_n 3, 1) := by decide +kernel
theorem dX7_unlawfulOn_2 : decode cX7_unlawfulOn 2 = .ok (.iload_n 3, 1) := by decide +kernel
theorem dX7_unlawfulOn_3 : decode cX7_unlawfulOn 3 = .ok (.aload_n 0, 1) := by decide +kernel
theorem dX7_unlawfulOn_4 : decode cX7_unlawfulOn 4 = .ok (.getfield 141, 3) := by decide +kernel
theorem dX7_unlawfulOn_7 : decode cX7_unlawfulOn 7 = .ok (.if_icmp .ge 22, 3) := by decide +kernel
theorem dX7_unlawfulOn_10 : decode cX7_unlawfulOn 10 = .ok (.aload_n 0, 1) := by decide +kernel
theorem dX7_unlawfulOn_11 : decode cX7_unlawfulOn 11 = .ok (.aload_n 1, 1) := by decide +kernel
theorem dX7_unlawfulOn_12 : decode cX7_unlawfulOn 12 = .ok (.iload_n 2, 1) := by decide +kernel
theorem dX7_unlawfulOn_13 : decode cX7_unlawfulOn 13 = .ok (.iload_n 3, 1) := by decide +kernel
theorem dX7_unlawfulOn_14 : decode cX7_unlawfulOn 14 = .ok (.invokevirtual 174, 3) := by decide +kernel
theorem dX7_unlawfulOn_17 : decode cX7_unlawfulOn 17 = .ok (.iconst 3, 1) := by decide +kernel
theorem dX7_unlawfulOn_18 : decode cX7_unlawfulOn 18 = .ok (.if_icmp .ne 5, 3) := by decide +kernel
theorem dX7_unlawfulOn_21 : decode cX7_unlawfulOn 21 = .ok (.iload_n 3, 1) := by decide +kernel
theorem dX7_unlawfulOn_22 : decode cX7_unlawfulOn 22 = .ok (.ireturn, 1) := by decide +kernel
theorem dX7_unlawfulOn_23 : decode cX7_unlawfulOn 23 = .ok (.iinc 3 1, 3) := by decide +kernel
theorem dX7_unlawfulOn_26 : decode cX7_unlawfulOn 26 = .ok (.goto (-24), 3) := by decide +kernel
theorem dX7_unlawfulOn_29 : decode cX7_unlawfulOn 29 = .ok (.bipush (-9), 2) := by decide +kernel
theorem dX7_unlawfulOn_31 : decode cX7_unlawfulOn 31 = .ok (.ireturn, 1) := by decide +kernel
theorem dX7_unlawful_0 : decode cX7_unlawful 0 = .ok (.iconst 0, 1) := by decide +kernel
theorem dX7_unlawful_1 : decode cX7_unlawful 1 = .ok (.istore_n 2, 1) := by decide +kernel
theorem dX7_unlawful_2 : decode cX7_unlawful 2 = .ok (.iconst 0, 1) := by decide +kernel
theorem dX7_unlawful_3 : decode cX7_unlawful 3 = .ok (.istore_n 3, 1) := by decide +kernel
theorem dX7_unlawful_4 : decode cX7_unlawful 4 = .ok (.iload_n 3, 1) := by decide +kernel
theorem dX7_unlawful_5 : decode cX7_unlawful 5 = .ok (.aload_n 0, 1) := by decide +kernel
theorem dX7_unlawful_6 : decode cX7_unlawful 6 = .ok (.getfield 144, 3) := by decide +kernel
theorem dX7_unlawful_9 : decode cX7_unlawful 9 = .ok (.if_icmp .ge 30, 3) := by decide +kernel
theorem dX7_unlawful_12 : decode cX7_unlawful 12 = .ok (.iload_n 2, 1) := by decide +kernel
theorem dX7_unlawful_13 : decode cX7_unlawful 13 = .ok (.aload_n 0, 1) := by decide +kernel
theorem dX7_unlawful_14 : decode cX7_unlawful 14 = .ok (.aload_n 1, 1) := by decide +kernel
theorem dX7_unlawful_15 : decode cX7_unlawful 15 = .ok (.iload_n 3, 1) := by decide +kernel
theorem dX7_unlawful_16 : decode cX7_unlawful 16 = .ok (.invokevirtual 190, 3) := by decide +kernel
theorem dX7_unlawful_19 : decode cX7_unlawful 19 = .ok (.bipush (-9), 2) := by decide +kernel
theorem dX7_unlawful_21 : decode cX7_unlawful 21 = .ok (.if_icmp .ne 7, 3) := by decide +kernel
theorem dX7_unlawful_24 : decode cX7_unlawful 24 = .ok (.iconst 0, 1) := by decide +kernel
theorem dX7_unlawful_25 : decode cX7_unlawful 25 = .ok (.goto 6, 3) := by decide +kernel
theorem dX7_unlawful_28 : decode cX7_unlawful 28 = .ok (.iconst 1, 1) := by decide +kernel
theorem dX7_unlawful_29 : decode cX7_unlawful 29 = .ok (.iload_n 3, 1) := by decide +kernel
theorem dX7_unlawful_30 : decode cX7_unlawful 30 = .ok (.ishl, 1) := by decide +kernel
theorem dX7_unlawful_31 : decode cX7_unlawful 31 = .ok (.ior, 1) := by decide +kernel
theorem dX7_unlawful_32 : decode cX7_unlawful 32 = .ok (.istore_n 2, 1) := by decide +kernel
theorem dX7_unlawful_33 : decode cX7_unlawful 33 = .ok (.iinc 3 1, 3) := by decide +kernel
theorem dX7_unlawful_36 : decode cX7_unlawful 36 = .ok (.goto (-32), 3) := by decide +kernel
theorem dX7_unlawful_39 : decode cX7_unlawful 39 = .ok (.iload_n 2, 1) := by decide +kernel
theorem dX7_unlawful_40 : decode cX7_unlawful 40 = .ok (.ireturn, 1) := by decide +kernel
theorem dX7_ones_0 : decode cX7_ones 0 = .ok (.iconst 0, 1) := by decide +kernel
theorem dX7_ones_1 : decode cX7_ones 1 = .ok (.istore_n 1, 1) := by decide +kernel
theorem dX7_ones_2 : decode cX7_ones 2 = .ok (.iconst 0, 1) := by decide +kernel
theorem dX7_ones_3 : decode cX7_ones 3 = .ok (.istore_n 2, 1) := by decide +kernel
theorem dX7_ones_4 : decode cX7_ones 4 = .ok (.iload_n 2, 1) := by decide +kernel
theorem dX7_ones_5 : decode cX7_ones 5 = .ok (.iconst 4, 1) := by decide +kernel
theorem dX7_ones_6 : decode cX7_ones 6 = .ok (.if_icmp .ge 17, 3) := by decide +kernel
theorem dX7_ones_9 : decode cX7_ones 9 = .ok (.iload_n 1, 1) := by decide +kernel
theorem dX7_ones_10 : decode cX7_ones 10 = .ok (.iload_n 0, 1) := by decide +kernel
theorem dX7_ones_11 : decode cX7_ones 11 = .ok (.iload_n 2, 1) := by decide +kernel
theorem dX7_ones_12 : decode cX7_ones 12 = .ok (.ishr, 1) := by decide +kernel
theorem dX7_ones_13 : decode cX7_ones 13 = .ok (.iconst 1, 1) := by decide +kernel
theorem dX7_ones_14 : decode cX7_ones 14 = .ok (.iand, 1) := by decide +kernel
theorem dX7_ones_15 : decode cX7_ones 15 = .ok (.iadd, 1) := by decide +kernel
theorem dX7_ones_16 : decode cX7_ones 16 = .ok (.istore_n 1, 1) := by decide +kernel
theorem dX7_ones_17 : decode cX7_ones 17 = .ok (.iinc 2 1, 3) := by decide +kernel
theorem dX7_ones_20 : decode cX7_ones 20 = .ok (.goto (-16), 3) := by decide +kernel
theorem dX7_ones_23 : decode cX7_ones 23 = .ok (.iload_n 1, 1) := by decide +kernel
theorem dX7_ones_24 : decode cX7_ones 24 = .ok (.ireturn, 1) := by decide +kernel
theorem dX7_law_0 : decode cX7_law 0 = .ok (.aload_n 0, 1) := by decide +kernel
theorem dX7_law_1 : decode cX7_law 1 = .ok (.iconst 0, 1) := by decide +kernel
theorem dX7_law_2 : decode cX7_law 2 = .ok (.putfield 75, 3) := by decide +kernel
theorem dX7_law_5 : decode cX7_law 5 = .ok (.aload_n 0, 1) := by decide +kernel
theorem dX7_law_6 : decode cX7_law 6 = .ok (.iload_n 1, 1) := by decide +kernel
theorem dX7_law_7 : decode cX7_law 7 = .ok (.iload_n 2, 1) := by decide +kernel
theorem dX7_law_8 : decode cX7_law 8 = .ok (.iload_n 3, 1) := by decide +kernel
theorem dX7_law_9 : decode cX7_law 9 = .ok (.invokevirtual 194, 3) := by decide +kernel
theorem dX7_law_12 : decode cX7_law 12 = .ok (.ifCond .ne 5, 3) := by decide +kernel
theorem dX7_law_15 : decode cX7_law 15 = .ok (.iconst (-1), 1) := by decide +kernel
theorem dX7_law_16 : decode cX7_law 16 = .ok (.ireturn, 1) := by decide +kernel
theorem dX7_law_17 : decode cX7_law 17 = .ok (.aload_n 0, 1) := by decide +kernel
theorem dX7_law_18 : decode cX7_law 18 = .ok (.invokevirtual 183, 3) := by decide +kernel
theorem dX7_law_21 : decode cX7_law 21 = .ok (.aload_n 0, 1) := by decide +kernel
theorem dX7_law_22 : decode cX7_law 22 = .ok (.getfield 28, 3) := by decide +kernel
theorem dX7_law_25 : decode cX7_law 25 = .ok (.iconst 2, 1) := by decide +kernel
theorem dX7_law_26 : decode cX7_law 26 = .ok (.iload_n 1, 1) := by decide +kernel
theorem dX7_law_27 : decode cX7_law 27 = .ok (.imul, 1) := by decide +kernel
theorem dX7_law_28 : decode cX7_law 28 = .ok (.iload_n 2, 1) := by decide +kernel
theorem dX7_law_29 : decode cX7_law 29 = .ok (.iastore, 1) := by decide +kernel
theorem dX7_law_30 : decode cX7_law 30 = .ok (.aload_n 0, 1) := by decide +kernel
theorem dX7_law_31 : decode cX7_law 31 = .ok (.getfield 28, 3) := by decide +kernel
theorem dX7_law_34 : decode cX7_law 34 = .ok (.iconst 2, 1) := by decide +kernel
theorem dX7_law_35 : decode cX7_law 35 = .ok (.iload_n 1, 1) := by decide +kernel
theorem dX7_law_36 : decode cX7_law 36 = .ok (.imul, 1) := by decide +kernel
theorem dX7_law_37 : decode cX7_law 37 = .ok (.iconst 1, 1) := by decide +kernel
theorem dX7_law_38 : decode cX7_law 38 = .ok (.iadd, 1) := by decide +kernel
theorem dX7_law_39 : decode cX7_law 39 = .ok (.iload_n 3, 1) := by decide +kernel
theorem dX7_law_40 : decode cX7_law 40 = .ok (.iastore, 1) := by decide +kernel
theorem dX7_law_41 : decode cX7_law 41 = .ok (.aload_n 0, 1) := by decide +kernel
theorem dX7_law_42 : decode cX7_law 42 = .ok (.aload_n 0, 1) := by decide +kernel
theorem dX7_law_43 : decode cX7_law 43 = .ok (.getfield 28, 3) := by decide +kernel
theorem dX7_law_46 : decode cX7_law 46 = .ok (.invokevirtual 197, 3) := by decide +kernel
theorem dX7_law_49 : decode cX7_law 49 = .ok (.invokestatic 201, 3) := by decide +kernel
theorem dX7_law_52 : decode cX7_law 52 = .ok (.ireturn, 1) := by decide +kernel
theorem dX7_undo_0 : decode cX7_undo 0 = .ok (.aload_n 0, 1) := by decide +kernel
theorem dX7_undo_1 : decode cX7_undo 1 = .ok (.iconst 0, 1) := by decide +kernel
theorem dX7_undo_2 : decode cX7_undo 2 = .ok (.putfield 75, 3) := by decide +kernel
theorem dX7_undo_5 : decode cX7_undo 5 = .ok (.aload_n 0, 1) := by decide +kernel
theorem dX7_undo_6 : decode cX7_undo 6 = .ok (.getfield 150, 3) := by decide +kernel
theorem dX7_undo_9 : decode cX7_undo 9 = .ok (.ifCond .ne 6, 3) := by decide +kernel
theorem dX7_undo_12 : decode cX7_undo 12 = .ok (.bipush (-2), 2) := by decide +kernel
theorem dX7_undo_14 : decode cX7_undo 14 = .ok (.ireturn, 1) := by decide +kernel
theorem dX7_undo_15 : decode cX7_undo 15 = .ok (.aload_n 0, 1) := by decide +kernel
theorem dX7_undo_16 : decode cX7_undo 16 = .ok (.dup, 1) := by decide +kernel
theorem dX7_undo_17 : decode cX7_undo 17 = .ok (.getfield 150, 3) := by decide +kernel
theorem dX7_undo_20 : decode cX7_undo 20 = .ok (.iconst 1, 1) := by decide +kernel
theorem dX7_undo_21 : decode cX7_undo 21 = .ok (.isub, 1) := by decide +kernel
theorem dX7_undo_22 : decode cX7_undo 22 = .ok (.putfield 150, 3) := by decide +kernel
theorem dX7_undo_25 : decode cX7_undo 25 = .ok (.iconst 0, 1) := by decide +kernel
theorem dX7_undo_26 : decode cX7_undo 26 = .ok (.istore_n 1, 1) := by decide +kernel
theorem dX7_undo_27 : decode cX7_undo 27 = .ok (.iload_n 1, 1) := by decide +kernel
theorem dX7_undo_28 : decode cX7_undo 28 = .ok (.bipush 26, 2) := by decide +kernel
theorem dX7_undo_30 : decode cX7_undo 30 = .ok (.if_icmp .ge 29, 3) := by decide +kernel
theorem dX7_undo_33 : decode cX7_undo 33 = .ok (.aload_n 0, 1) := by decide +kernel
theorem dX7_undo_34 : decode cX7_undo 34 = .ok (.getfield 28, 3) := by decide +kernel
theorem dX7_undo_37 : decode cX7_undo 37 = .ok (.iload_n 1, 1) := by decide +kernel
theorem dX7_undo_38 : decode cX7_undo 38 = .ok (.aload_n 0, 1) := by decide +kernel
theorem dX7_undo_39 : decode cX7_undo 39 = .ok (.getfield 41, 3) := by decide +kernel
theorem dX7_undo_42 : decode cX7_undo 42 = .ok (.bipush 26, 2) := by decide +kernel
theorem dX7_undo_44 : decode cX7_undo 44 = .ok (.aload_n 0, 1) := by decide +kernel
theorem dX7_undo_45 : decode cX7_undo 45 = .ok (.getfield 150, 3) := by decide +kernel
theorem dX7_undo_48 : decode cX7_undo 48 = .ok (.imul, 1) := by decide +kernel
theorem dX7_undo_49 : decode cX7_undo 49 = .ok (.iload_n 1, 1) := by decide +kernel
theorem dX7_undo_50 : decode cX7_undo 50 = .ok (.iadd, 1) := by decide +kernel
theorem dX7_undo_51 : decode cX7_undo 51 = .ok (.iaload, 1) := by decide +kernel
theorem dX7_undo_52 : decode cX7_undo 52 = .ok (.iastore, 1) := by decide +kernel
theorem dX7_undo_53 : decode cX7_undo 53 = .ok (.iinc 1 1, 3) := by decide +kernel
theorem dX7_undo_56 : decode cX7_undo 56 = .ok (.goto (-29), 3) := by decide +kernel
theorem dX7_undo_59 : decode cX7_undo 59 = .ok (.aload_n 0, 1) := by decide +kernel
theorem dX7_undo_60 : decode cX7_undo 60 = .ok (.getfield 150, 3) := by decide +kernel
theorem dX7_undo_63 : decode cX7_undo 63 = .ok (.ireturn, 1) := by decide +kernel
theorem dX7_countEnds_0 : decode cX7_countEnds 0 = .ok (.iconst 0, 1) := by decide +kernel
theorem dX7_countEnds_1 : decode cX7_countEnds 1 = .ok (.istore_n 3, 1) := by decide +kernel
theorem dX7_countEnds_2 : decode cX7_countEnds 2 = .ok (.iconst 0, 1) := by decide +kernel
theorem dX7_countEnds_3 : decode cX7_countEnds 3 = .ok (.istore 4, 2) := by decide +kernel
theorem dX7_countEnds_5 : decode cX7_countEnds 5 = .ok (.iload 4, 2) := by decide +kernel
theorem dX7_countEnds_7 : decode cX7_countEnds 7 = .ok (.aload_n 0, 1) := by decide +kernel
theorem dX7_countEnds_8 : decode cX7_countEnds 8 = .ok (.getfield 141, 3) := by decide +kernel
theorem dX7_countEnds_11 : decode cX7_countEnds 11 = .ok (.if_icmp .ge 32, 3) := by decide +kernel
theorem dX7_countEnds_14 : decode cX7_countEnds 14 = .ok (.iload_n 3, 1) := by decide +kernel
theorem dX7_countEnds_15 : decode cX7_countEnds 15 = .ok (.aload_n 0, 1) := by decide +kernel
theorem dX7_countEnds_16 : decode cX7_countEnds 16 = .ok (.aload_n 0, 1) := by decide +kernel
theorem dX7_countEnds_17 : decode cX7_countEnds 17 = .ok (.getfield 28, 3) := by decide +kernel
theorem dX7_countEnds_20 : decode cX7_countEnds 20 = .ok (.iload_n 1, 1) := by decide +kernel
theorem dX7_countEnds_21 : decode cX7_countEnds 21 = .ok (.iload 4, 2) := by decide +kernel
theorem dX7_countEnds_23 : decode cX7_countEnds 23 = .ok (.invokevirtual 174, 3) := by decide +kernel
theorem dX7_countEnds_26 : decode cX7_countEnds 26 = .ok (.iload_n 2, 1) := by decide +kernel
theorem dX7_countEnds_27 : decode cX7_countEnds 27 = .ok (.if_icmp .ne 7, 3) := by decide +kernel
theorem dX7_countEnds_30 : decode cX7_countEnds 30 = .ok (.iconst 1, 1) := by decide +kernel
theorem dX7_countEnds_31 : decode cX7_countEnds 31 = .ok (.goto 4, 3) := by decide +kernel
theorem dX7_countEnds_34 : decode cX7_countEnds 34 = .ok (.iconst 0, 1) := by decide +kernel
theorem dX7_countEnds_35 : decode cX7_countEnds 35 = .ok (.iadd, 1) := by decide +kernel
theorem dX7_countEnds_36 : decode cX7_countEnds 36 = .ok (.istore_n 3, 1) := by decide +kernel
theorem dX7_countEnds_37 : decode cX7_countEnds 37 = .ok (.iinc 4 1, 3) := by decide +kernel
theorem dX7_countEnds_40 : decode cX7_countEnds 40 = .ok (.goto (-35), 3) := by decide +kernel
theorem dX7_countEnds_43 : decode cX7_countEnds 43 = .ok (.iload_n 3, 1) := by decide +kernel
theorem dX7_countEnds_44 : decode cX7_countEnds 44 = .ok (.ireturn, 1) := by decide +kernel
theorem dX7_inDrawer_0 : decode cX7_inDrawer 0 = .ok (.iconst 0, 1) := by decide +kernel
theorem dX7_inDrawer_1 : decode cX7_inDrawer 1 = .ok (.istore_n 1, 1) := by decide +kernel
theorem dX7_inDrawer_2 : decode cX7_inDrawer 2 = .ok (.iconst 0, 1) := by decide +kernel
theorem dX7_inDrawer_3 : decode cX7_inDrawer 3 = .ok (.istore_n 2, 1) := by decide +kernel
theorem dX7_inDrawer_4 : decode cX7_inDrawer 4 = .ok (.iload_n 2, 1) := by decide +kernel
theorem dX7_inDrawer_5 : decode cX7_inDrawer 5 = .ok (.aload_n 0, 1) := by decide +kernel
theorem dX7_inDrawer_6 : decode cX7_inDrawer 6 = .ok (.getfield 144, 3) := by decide +kernel
theorem dX7_inDrawer_9 : decode cX7_inDrawer 9 = .ok (.if_icmp .ge 18, 3) := by decide +kernel
theorem dX7_inDrawer_12 : decode cX7_inDrawer 12 = .ok (.iload_n 1, 1) := by decide +kernel
theorem dX7_inDrawer_13 : decode cX7_inDrawer 13 = .ok (.aload_n 0, 1) := by decide +kernel
theorem dX7_inDrawer_14 : decode cX7_inDrawer 14 = .ok (.iload_n 2, 1) := by decide +kernel
theorem dX7_inDrawer_15 : decode cX7_inDrawer 15 = .ok (.iconst 2, 1) := by decide +kernel
theorem dX7_inDrawer_16 : decode cX7_inDrawer 16 = .ok (.invokevirtual 204, 3) := by decide +kernel
theorem dX7_inDrawer_19 : decode cX7_inDrawer 19 = .ok (.iadd, 1) := by decide +kernel
theorem dX7_inDrawer_20 : decode cX7_inDrawer 20 = .ok (.istore_n 1, 1) := by decide +kernel
theorem dX7_inDrawer_21 : decode cX7_inDrawer 21 = .ok (.iinc 2 1, 3) := by decide +kernel
theorem dX7_inDrawer_24 : decode cX7_inDrawer 24 = .ok (.goto (-20), 3) := by decide +kernel
theorem dX7_inDrawer_27 : decode cX7_inDrawer 27 = .ok (.iload_n 1, 1) := by decide +kernel
theorem dX7_inDrawer_28 : decode cX7_inDrawer 28 = .ok (.ireturn, 1) := by decide +kernel
theorem dX7_now_0 : decode cX7_now 0 = .ok (.aload_n 0, 1) := by decide +kernel
theorem dX7_now_1 : decode cX7_now 1 = .ok (.iconst 0, 1) := by decide +kernel
theorem dX7_now_2 : decode cX7_now 2 = .ok (.putfield 75, 3) := by decide +kernel
theorem dX7_now_5 : decode cX7_now 5 = .ok (.iload_n 1, 1) := by decide +kernel
theorem dX7_now_6 : decode cX7_now 6 = .ok (.iconst 0, 1) := by decide +kernel
theorem dX7_now_7 : decode cX7_now 7 = .ok (.iconst 5, 1) := by decide +kernel
theorem dX7_now_8 : decode cX7_now 8 = .ok (.invokestatic 78, 3) := by decide +kernel
theorem dX7_now_11 : decode cX7_now 11 = .ok (.ifCond .ne 5, 3) := by decide +kernel
theorem dX7_now_14 : decode cX7_now 14 = .ok (.iconst (-1), 1) := by decide +kernel
theorem dX7_now_15 : decode cX7_now 15 = .ok (.ireturn, 1) := by decide +kernel
theorem dX7_now_16 : decode cX7_now 16 = .ok (.iload_n 1, 1) := by decide +kernel
theorem dX7_now_17 : decode cX7_now 17 = .ok (.iconst 3, 1) := by decide +kernel
theorem dX7_now_18 : decode cX7_now 18 = .ok (.if_icmp .ge 38, 3) := by decide +kernel
theorem dX7_now_21 : decode cX7_now 21 = .ok (.iload_n 1, 1) := by decide +kernel
theorem dX7_now_22 : decode cX7_now 22 = .ok (.ifCond .ne 13, 3) := by decide +kernel
theorem dX7_now_25 : decode cX7_now 25 = .ok (.aload_n 0, 1) := by decide +kernel
theorem dX7_now_26 : decode cX7_now 26 = .ok (.getfield 28, 3) := by decide +kernel
theorem dX7_now_29 : decode cX7_now 29 = .ok (.bipush 24, 2) := by decide +kernel
theorem dX7_now_31 : decode cX7_now 31 = .ok (.iaload, 1) := by decide +kernel
theorem dX7_now_32 : decode cX7_now 32 = .ok (.goto 23, 3) := by decide +kernel
theorem dX7_now_35 : decode cX7_now 35 = .ok (.iload_n 1, 1) := by decide +kernel
theorem dX7_now_36 : decode cX7_now 36 = .ok (.iconst 1, 1) := by decide +kernel
theorem dX7_now_37 : decode cX7_now 37 = .ok (.if_icmp .ne 14, 3) := by decide +kernel
theorem dX7_now_40 : decode cX7_now 40 = .ok (.aload_n 0, 1) := by decide +kernel
theorem dX7_now_41 : decode cX7_now 41 = .ok (.aload_n 0, 1) := by decide +kernel
theorem dX7_now_42 : decode cX7_now 42 = .ok (.getfield 28, 3) := by decide +kernel
theorem dX7_now_45 : decode cX7_now 45 = .ok (.invokevirtual 197, 3) := by decide +kernel
theorem dX7_now_48 : decode cX7_now 48 = .ok (.goto 7, 3) := by decide +kernel
theorem dX7_now_51 : decode cX7_now 51 = .ok (.aload_n 0, 1) := by decide +kernel
theorem dX7_now_52 : decode cX7_now 52 = .ok (.invokevirtual 207, 3) := by decide +kernel
theorem dX7_now_55 : decode cX7_now 55 = .ok (.ireturn, 1) := by decide +kernel
theorem dX7_now_56 : decode cX7_now 56 = .ok (.iload_n 1, 1) := by decide +kernel
theorem dX7_now_57 : decode cX7_now 57 = .ok (.iconst 3, 1) := by decide +kernel
theorem dX7_now_58 : decode cX7_now 58 = .ok (.if_icmp .ne 22, 3) := by decide +kernel
theorem dX7_now_61 : decode cX7_now 61 = .ok (.aload_n 0, 1) := by decide +kernel
theorem dX7_now_62 : decode cX7_now 62 = .ok (.invokevirtual 207, 3) := by decide +kernel
theorem dX7_now_65 : decode cX7_now 65 = .ok (.aload_n 0, 1) := by decide +kernel
theorem dX7_now_66 : decode cX7_now 66 = .ok (.getfield 71, 3) := by decide +kernel
theorem dX7_now_69 : decode cX7_now 69 = .ok (.if_icmp .le 7, 3) := by decide +kernel
theorem dX7_now_72 : decode cX7_now 72 = .ok (.iconst 1, 1) := by decide +kernel
theorem dX7_now_73 : decode cX7_now 73 = .ok (.goto 26, 3) := by decide +kernel
theorem dX7_now_76 : decode cX7_now 76 = .ok (.iconst 0, 1) := by decide +kernel
theorem dX7_now_77 : decode cX7_now 77 = .ok (.goto 22, 3) := by decide +kernel
theorem dX7_now_80 : decode cX7_now 80 = .ok (.iload_n 1, 1) := by decide +kernel
theorem dX7_now_81 : decode cX7_now 81 = .ok (.iconst 4, 1) := by decide +kernel
theorem dX7_now_82 : decode cX7_now 82 = .ok (.if_icmp .ne 13, 3) := by decide +kernel
theorem dX7_now_85 : decode cX7_now 85 = .ok (.aload_n 0, 1) := by decide +kernel
theorem dX7_now_86 : decode cX7_now 86 = .ok (.getfield 28, 3) := by decide +kernel
theorem dX7_now_89 : decode cX7_now 89 = .ok (.bipush 25, 2) := by decide +kernel
theorem dX7_now_91 : decode cX7_now 91 = .ok (.iaload, 1) := by decide +kernel
theorem dX7_now_92 : decode cX7_now 92 = .ok (.goto 7, 3) := by decide +kernel
theorem dX7_now_95 : decode cX7_now 95 = .ok (.aload_n 0, 1) := by decide +kernel
theorem dX7_now_96 : decode cX7_now 96 = .ok (.getfield 150, 3) := by decide +kernel
theorem dX7_now_99 : decode cX7_now 99 = .ok (.ireturn, 1) := by decide +kernel
theorem dX7_asNow_0 : decode cX7_asNow 0 = .ok (.iconst 0, 1) := by decide +kernel
theorem dX7_asNow_1 : decode cX7_asNow 1 = .ok (.istore_n 1, 1) := by decide +kernel
theorem dX7_asNow_2 : decode cX7_asNow 2 = .ok (.iload_n 1, 1) := by decide +kernel
theorem dX7_asNow_3 : decode cX7_asNow 3 = .ok (.bipush 26, 2) := by decide +kernel
theorem dX7_asNow_5 : decode cX7_asNow 5 = .ok (.if_icmp .ge 21, 3) := by decide +kernel
theorem dX7_asNow_8 : decode cX7_asNow 8 = .ok (.aload_n 0, 1) := by decide +kernel
theorem dX7_asNow_9 : decode cX7_asNow 9 = .ok (.getfield 31, 3) := by decide +kernel
theorem dX7_asNow_12 : decode cX7_asNow 12 = .ok (.iload_n 1, 1) := by decide +kernel
theorem dX7_asNow_13 : decode cX7_asNow 13 = .ok (.aload_n 0, 1) := by decide +kernel
theorem dX7_asNow_14 : decode cX7_asNow 14 = .ok (.getfield 28, 3) := by decide +kernel
theorem dX7_asNow_17 : decode cX7_asNow 17 = .ok (.iload_n 1, 1) := by decide +kernel
theorem dX7_asNow_18 : decode cX7_asNow 18 = .ok (.iaload, 1) := by decide +kernel
theorem dX7_asNow_19 : decode cX7_asNow 19 = .ok (.iastore, 1) := by decide +kernel
theorem dX7_asNow_20 : decode cX7_asNow 20 = .ok (.iinc 1 1, 3) := by decide +kernel
theorem dX7_asNow_23 : decode cX7_asNow 23 = .ok (.goto (-21), 3) := by decide +kernel
theorem dX7_asNow_26 : decode cX7_asNow 26 = .ok (.return_, 1) := by decide +kernel
theorem dX7_behind_0 : decode cX7_behind 0 = .ok (.aload_n 0, 1) := by decide +kernel
theorem dX7_behind_1 : decode cX7_behind 1 = .ok (.iconst 0, 1) := by decide +kernel
theorem dX7_behind_2 : decode cX7_behind 2 = .ok (.putfield 75, 3) := by decide +kernel
theorem dX7_behind_5 : decode cX7_behind 5 = .ok (.iload_n 1, 1) := by decide +kernel
theorem dX7_behind_6 : decode cX7_behind 6 = .ok (.iconst 0, 1) := by decide +kernel
theorem dX7_behind_7 : decode cX7_behind 7 = .ok (.bipush 60, 2) := by decide +kernel
theorem dX7_behind_9 : decode cX7_behind 9 = .ok (.invokestatic 78, 3) := by decide +kernel
theorem dX7_behind_12 : decode cX7_behind 12 = .ok (.ifCond .eq 19, 3) := by decide +kernel
theorem dX7_behind_15 : decode cX7_behind 15 = .ok (.aload_n 0, 1) := by decide +kernel
theorem dX7_behind_16 : decode cX7_behind 16 = .ok (.iload_n 2, 1) := by decide +kernel
theorem dX7_behind_17 : decode cX7_behind 17 = .ok (.invokevirtual 171, 3) := by decide +kernel
theorem dX7_behind_20 : decode cX7_behind 20 = .ok (.ifCond .eq 11, 3) := by decide +kernel
theorem dX7_behind_23 : decode cX7_behind 23 = .ok (.aload_n 0, 1) := by decide +kernel
theorem dX7_behind_24 : decode cX7_behind 24 = .ok (.iload_n 3, 1) := by decide +kernel
theorem dX7_behind_25 : decode cX7_behind 25 = .ok (.invokevirtual 159, 3) := by decide +kernel
theorem dX7_behind_28 : decode cX7_behind 28 = .ok (.ifCond .ne 5, 3) := by decide +kernel
theorem dX7_behind_31 : decode cX7_behind 31 = .ok (.iconst (-1), 1) := by decide +kernel
theorem dX7_behind_32 : decode cX7_behind 32 = .ok (.ireturn, 1) := by decide +kernel
theorem dX7_behind_33 : decode cX7_behind 33 = .ok (.aload_n 0, 1) := by decide +kernel
theorem dX7_behind_34 : decode cX7_behind 34 = .ok (.invokevirtual 211, 3) := by decide +kernel
theorem dX7_behind_37 : decode cX7_behind 37 = .ok (.iconst 0, 1) := by decide +kernel
theorem dX7_behind_38 : decode cX7_behind 38 = .ok (.istore 4, 2) := by decide +kernel
theorem dX7_behind_40 : decode cX7_behind 40 = .ok (.iload 4, 2) := by decide +kernel
theorem dX7_behind_42 : decode cX7_behind 42 = .ok (.iload_n 1, 1) := by decide +kernel
theorem dX7_behind_43 : decode cX7_behind 43 = .ok (.if_icmp .ge 17, 3) := by decide +kernel
theorem dX7_behind_46 : decode cX7_behind 46 = .ok (.aload_n 0, 1) := by decide +kernel
theorem dX7_behind_47 : decode cX7_behind 47 = .ok (.aload_n 0, 1) := by decide +kernel
theorem dX7_behind_48 : decode cX7_behind 48 = .ok (.getfield 31, 3) := by decide +kernel
theorem dX7_behind_51 : decode cX7_behind 51 = .ok (.invokevirtual 186, 3) := by decide +kernel
theorem dX7_behind_54 : decode cX7_behind 54 = .ok (.iinc 4 1, 3) := by decide +kernel
theorem dX7_behind_57 : decode cX7_behind 57 = .ok (.goto (-17), 3) := by decide +kernel
theorem dX7_behind_60 : decode cX7_behind 60 = .ok (.aload_n 0, 1) := by decide +kernel
theorem dX7_behind_61 : decode cX7_behind 61 = .ok (.aload_n 0, 1) := by decide +kernel
theorem dX7_behind_62 : decode cX7_behind 62 = .ok (.getfield 31, 3) := by decide +kernel
theorem dX7_behind_65 : decode cX7_behind 65 = .ok (.iload_n 2, 1) := by decide +kernel
theorem dX7_behind_66 : decode cX7_behind 66 = .ok (.iload_n 3, 1) := by decide +kernel
theorem dX7_behind_67 : decode cX7_behind 67 = .ok (.invokevirtual 174, 3) := by decide +kernel
theorem dX7_behind_70 : decode cX7_behind 70 = .ok (.ireturn, 1) := by decide +kernel
theorem dX7_first_0 : decode cX7_first 0 = .ok (.aload_n 0, 1) := by decide +kernel
theorem dX7_first_1 : decode cX7_first 1 = .ok (.iconst 0, 1) := by decide +kernel
theorem dX7_first_2 : decode cX7_first 2 = .ok (.putfield 75, 3) := by decide +kernel
theorem dX7_first_5 : decode cX7_first 5 = .ok (.aload_n 0, 1) := by decide +kernel
theorem dX7_first_6 : decode cX7_first 6 = .ok (.iload_n 1, 1) := by decide +kernel
theorem dX7_first_7 : decode cX7_first 7 = .ok (.invokevirtual 171, 3) := by decide +kernel
theorem dX7_first_10 : decode cX7_first 10 = .ok (.ifCond .eq 12, 3) := by decide +kernel
theorem dX7_first_13 : decode cX7_first 13 = .ok (.iload_n 2, 1) := by decide +kernel
theorem dX7_first_14 : decode cX7_first 14 = .ok (.iconst 0, 1) := by decide +kernel
theorem dX7_first_15 : decode cX7_first 15 = .ok (.iconst 1, 1) := by decide +kernel
theorem dX7_first_16 : decode cX7_first 16 = .ok (.invokestatic 78, 3) := by decide +kernel
theorem dX7_first_19 : decode cX7_first 19 = .ok (.ifCond .ne 5, 3) := by decide +kernel
theorem dX7_first_22 : decode cX7_first 22 = .ok (.iconst (-1), 1) := by decide +kernel
theorem dX7_first_23 : decode cX7_first 23 = .ok (.ireturn, 1) := by decide +kernel
theorem dX7_first_24 : decode cX7_first 24 = .ok (.aload_n 0, 1) := by decide +kernel
theorem dX7_first_25 : decode cX7_first 25 = .ok (.invokevirtual 211, 3) := by decide +kernel
theorem dX7_first_28 : decode cX7_first 28 = .ok (.iconst 0, 1) := by decide +kernel
theorem dX7_first_29 : decode cX7_first 29 = .ok (.istore_n 3, 1) := by decide +kernel
theorem dX7_first_30 : decode cX7_first 30 = .ok (.iload_n 3, 1) := by decide +kernel
theorem dX7_first_31 : decode cX7_first 31 = .ok (.bipush 61, 2) := by decide +kernel
theorem dX7_first_33 : decode cX7_first 33 = .ok (.if_icmp .ge 46, 3) := by decide +kernel
theorem dX7_first_36 : decode cX7_first 36 = .ok (.aload_n 0, 1) := by decide +kernel
theorem dX7_first_37 : decode cX7_first 37 = .ok (.aload_n 0, 1) := by decide +kernel
theorem dX7_first_38 : decode cX7_first 38 = .ok (.getfield 31, 3) := by decide +kernel
theorem dX7_first_41 : decode cX7_first 41 = .ok (.iload_n 1, 1) := by decide +kernel
theorem dX7_first_42 : decode cX7_first 42 = .ok (.invokevirtual 190, 3) := by decide +kernel
theorem dX7_first_45 : decode cX7_first 45 = .ok (.istore 4, 2) := by decide +kernel
theorem dX7_first_47 : decode cX7_first 47 = .ok (.iload 4, 2) := by decide +kernel
theorem dX7_first_49 : decode cX7_first 49 = .ok (.bipush (-9), 2) := by decide +kernel
theorem dX7_first_51 : decode cX7_first 51 = .ok (.if_icmp .eq 14, 3) := by decide +kernel
theorem dX7_first_54 : decode cX7_first 54 = .ok (.iload_n 2, 1) := by decide +kernel
theorem dX7_first_55 : decode cX7_first 55 = .ok (.ifCond .ne 7, 3) := by decide +kernel
theorem dX7_first_58 : decode cX7_first 58 = .ok (.iload_n 3, 1) := by decide +kernel
theorem dX7_first_59 : decode cX7_first 59 = .ok (.goto 5, 3) := by decide +kernel
theorem dX7_first_62 : decode cX7_first 62 = .ok (.iload 4, 2) := by decide +kernel
theorem dX7_first_64 : decode cX7_first 64 = .ok (.ireturn, 1) := by decide +kernel
theorem dX7_first_65 : decode cX7_first 65 = .ok (.aload_n 0, 1) := by decide +kernel
theorem dX7_first_66 : decode cX7_first 66 = .ok (.aload_n 0, 1) := by decide +kernel
theorem dX7_first_67 : decode cX7_first 67 = .ok (.getfield 31, 3) := by decide +kernel
theorem dX7_first_70 : decode cX7_first 70 = .ok (.invokevirtual 186, 3) := by decide +kernel
theorem dX7_first_73 : decode cX7_first 73 = .ok (.iinc 3 1, 3) := by decide +kernel
theorem dX7_first_76 : decode cX7_first 76 = .ok (.goto (-46), 3) := by decide +kernel
theorem dX7_first_79 : decode cX7_first 79 = .ok (.bipush (-9), 2) := by decide +kernel
theorem dX7_first_81 : decode cX7_first 81 = .ok (.ireturn, 1) := by decide +kernel
theorem dX7_unlawfulYears_0 : decode cX7_unlawfulYears 0 = .ok (.iconst 0, 1) := by decide +kernel
theorem dX7_unlawfulYears_1 : decode cX7_unlawfulYears 1 = .ok (.istore_n 1, 1) := by decide +kernel
theorem dX7_unlawfulYears_2 : decode cX7_unlawfulYears 2 = .ok (.iconst 0, 1) := by decide +kernel
theorem dX7_unlawfulYears_3 : decode cX7_unlawfulYears 3 = .ok (.istore_n 2, 1) := by decide +kernel
theorem dX7_unlawfulYears_4 : decode cX7_unlawfulYears 4 = .ok (.iload_n 2, 1) := by decide +kernel
theorem dX7_unlawfulYears_5 : decode cX7_unlawfulYears 5 = .ok (.bipush 21, 2) := by decide +kernel
theorem dX7_unlawfulYears_7 : decode cX7_unlawfulYears 7 = .ok (.if_icmp .ge 31, 3) := by decide +kernel
theorem dX7_unlawfulYears_10 : decode cX7_unlawfulYears 10 = .ok (.iload_n 1, 1) := by decide +kernel
theorem dX7_unlawfulYears_11 : decode cX7_unlawfulYears 11 = .ok (.aload_n 0, 1) := by decide +kernel
theorem dX7_unlawfulYears_12 : decode cX7_unlawfulYears 12 = .ok (.aload_n 0, 1) := by decide +kernel
theorem dX7_unlawfulYears_13 : decode cX7_unlawfulYears 13 = .ok (.getfield 31, 3) := by decide +kernel
theorem dX7_unlawfulYears_16 : decode cX7_unlawfulYears 16 = .ok (.invokevirtual 197, 3) := by decide +kernel
theorem dX7_unlawfulYears_19 : decode cX7_unlawfulYears 19 = .ok (.invokestatic 201, 3) := by decide +kernel
theorem dX7_unlawfulYears_22 : decode cX7_unlawfulYears 22 = .ok (.iadd, 1) := by decide +kernel
theorem dX7_unlawfulYears_23 : decode cX7_unlawfulYears 23 = .ok (.istore_n 1, 1) := by decide +kernel
theorem dX7_unlawfulYears_24 : decode cX7_unlawfulYears 24 = .ok (.aload_n 0, 1) := by decide +kernel
theorem dX7_unlawfulYears_25 : decode cX7_unlawfulYears 25 = .ok (.aload_n 0, 1) := by decide +kernel
theorem dX7_unlawfulYears_26 : decode cX7_unlawfulYears 26 = .ok (.getfield 31, 3) := by decide +kernel
theorem dX7_unlawfulYears_29 : decode cX7_unlawfulYears 29 = .ok (.invokevirtual 186, 3) := by decide +kernel
theorem dX7_unlawfulYears_32 : decode cX7_unlawfulYears 32 = .ok (.iinc 2 1, 3) := by decide +kernel
theorem dX7_unlawfulYears_35 : decode cX7_unlawfulYears 35 = .ok (.goto (-31), 3) := by decide +kernel
theorem dX7_unlawfulYears_38 : decode cX7_unlawfulYears 38 = .ok (.iload_n 1, 1) := by decide +kernel
theorem dX7_unlawfulYears_39 : decode cX7_unlawfulYears 39 = .ok (.ireturn, 1) := by decide +kernel
theorem dX7_freed_0 : decode cX7_freed 0 = .ok (.aload_n 0, 1) := by decide +kernel
theorem dX7_freed_1 : decode cX7_freed 1 = .ok (.iconst 0, 1) := by decide +kernel
theorem dX7_freed_2 : decode cX7_freed 2 = .ok (.putfield 75, 3) := by decide +kernel
theorem dX7_freed_5 : decode cX7_freed 5 = .ok (.aload_n 0, 1) := by decide +kernel
theorem dX7_freed_6 : decode cX7_freed 6 = .ok (.iload_n 1, 1) := by decide +kernel
theorem dX7_freed_7 : decode cX7_freed 7 = .ok (.iload_n 2, 1) := by decide +kernel
theorem dX7_freed_8 : decode cX7_freed 8 = .ok (.iload_n 3, 1) := by decide +kernel
theorem dX7_freed_9 : decode cX7_freed 9 = .ok (.invokevirtual 194, 3) := by decide +kernel
theorem dX7_freed_12 : decode cX7_freed 12 = .ok (.ifCond .ne 6, 3) := by decide +kernel
theorem dX7_freed_15 : decode cX7_freed 15 = .ok (.ldc 214, 2) := by decide +kernel
theorem dX7_freed_17 : decode cX7_freed 17 = .ok (.ireturn, 1) := by decide +kernel
theorem dX7_freed_18 : decode cX7_freed 18 = .ok (.aload_n 0, 1) := by decide +kernel
theorem dX7_freed_19 : decode cX7_freed 19 = .ok (.invokevirtual 211, 3) := by decide +kernel
theorem dX7_freed_22 : decode cX7_freed 22 = .ok (.aload_n 0, 1) := by decide +kernel
theorem dX7_freed_23 : decode cX7_freed 23 = .ok (.invokevirtual 215, 3) := by decide +kernel
theorem dX7_freed_26 : decode cX7_freed 26 = .ok (.istore 4, 2) := by decide +kernel
theorem dX7_freed_28 : decode cX7_freed 28 = .ok (.aload_n 0, 1) := by decide +kernel
theorem dX7_freed_29 : decode cX7_freed 29 = .ok (.invokevirtual 211, 3) := by decide +kernel
theorem dX7_freed_32 : decode cX7_freed 32 = .ok (.aload_n 0, 1) := by decide +kernel
theorem dX7_freed_33 : decode cX7_freed 33 = .ok (.getfield 31, 3) := by decide +kernel
theorem dX7_freed_36 : decode cX7_freed 36 = .ok (.iconst 2, 1) := by decide +kernel
theorem dX7_freed_37 : decode cX7_freed 37 = .ok (.iload_n 1, 1) := by decide +kernel
theorem dX7_freed_38 : decode cX7_freed 38 = .ok (.imul, 1) := by decide +kernel
theorem dX7_freed_39 : decode cX7_freed 39 = .ok (.iload_n 2, 1) := by decide +kernel
theorem dX7_freed_40 : decode cX7_freed 40 = .ok (.iastore, 1) := by decide +kernel
theorem dX7_freed_41 : decode cX7_freed 41 = .ok (.aload_n 0, 1) := by decide +kernel
theorem dX7_freed_42 : decode cX7_freed 42 = .ok (.getfield 31, 3) := by decide +kernel
theorem dX7_freed_45 : decode cX7_freed 45 = .ok (.iconst 2, 1) := by decide +kernel
theorem dX7_freed_46 : decode cX7_freed 46 = .ok (.iload_n 1, 1) := by decide +kernel
theorem dX7_freed_47 : decode cX7_freed 47 = .ok (.imul, 1) := by decide +kernel
theorem dX7_freed_48 : decode cX7_freed 48 = .ok (.iconst 1, 1) := by decide +kernel
theorem dX7_freed_49 : decode cX7_freed 49 = .ok (.iadd, 1) := by decide +kernel
theorem dX7_freed_50 : decode cX7_freed 50 = .ok (.iload_n 3, 1) := by decide +kernel
theorem dX7_freed_51 : decode cX7_freed 51 = .ok (.iastore, 1) := by decide +kernel
theorem dX7_freed_52 : decode cX7_freed 52 = .ok (.iload 4, 2) := by decide +kernel
theorem dX7_freed_54 : decode cX7_freed 54 = .ok (.aload_n 0, 1) := by decide +kernel
theorem dX7_freed_55 : decode cX7_freed 55 = .ok (.invokevirtual 215, 3) := by decide +kernel
theorem dX7_freed_58 : decode cX7_freed 58 = .ok (.isub, 1) := by decide +kernel
theorem dX7_freed_59 : decode cX7_freed 59 = .ok (.ireturn, 1) := by decide +kernel
theorem dX7_jumpsOn_0 : decode cX7_jumpsOn 0 = .ok (.aload_n 0, 1) := by decide +kernel
theorem dX7_jumpsOn_1 : decode cX7_jumpsOn 1 = .ok (.invokevirtual 211, 3) := by decide +kernel
theorem dX7_jumpsOn_4 : decode cX7_jumpsOn 4 = .ok (.iconst 0, 1) := by decide +kernel
theorem dX7_jumpsOn_5 : decode cX7_jumpsOn 5 = .ok (.istore_n 3, 1) := by decide +kernel
theorem dX7_jumpsOn_6 : decode cX7_jumpsOn 6 = .ok (.iconst 0, 1) := by decide +kernel
theorem dX7_jumpsOn_7 : decode cX7_jumpsOn 7 = .ok (.istore 4, 2) := by decide +kernel
theorem dX7_jumpsOn_9 : decode cX7_jumpsOn 9 = .ok (.iload 4, 2) := by decide +kernel
theorem dX7_jumpsOn_11 : decode cX7_jumpsOn 11 = .ok (.bipush 20, 2) := by decide +kernel
theorem dX7_jumpsOn_13 : decode cX7_jumpsOn 13 = .ok (.if_icmp .ge 122, 3) := by decide +kernel
theorem dX7_jumpsOn_16 : decode cX7_jumpsOn 16 = .ok (.iconst 0, 1) := by decide +kernel
theorem dX7_jumpsOn_17 : decode cX7_jumpsOn 17 = .ok (.istore 5, 2) := by decide +kernel
theorem dX7_jumpsOn_19 : decode cX7_jumpsOn 19 = .ok (.iload 5, 2) := by decide +kernel
theorem dX7_jumpsOn_21 : decode cX7_jumpsOn 21 = .ok (.aload_n 0, 1) := by decide +kernel
theorem dX7_jumpsOn_22 : decode cX7_jumpsOn 22 = .ok (.getfield 144, 3) := by decide +kernel
theorem dX7_jumpsOn_25 : decode cX7_jumpsOn 25 = .ok (.if_icmp .ge 104, 3) := by decide +kernel
theorem dX7_jumpsOn_28 : decode cX7_jumpsOn 28 = .ok (.bipush 8, 2) := by decide +kernel
theorem dX7_jumpsOn_30 : decode cX7_jumpsOn 30 = .ok (.iconst 4, 1) := by decide +kernel
theorem dX7_jumpsOn_31 : decode cX7_jumpsOn 31 = .ok (.iload 5, 2) := by decide +kernel
theorem dX7_jumpsOn_33 : decode cX7_jumpsOn 33 = .ok (.imul, 1) := by decide +kernel
theorem dX7_jumpsOn_34 : decode cX7_jumpsOn 34 = .ok (.iadd, 1) := by decide +kernel
theorem dX7_jumpsOn_35 : decode cX7_jumpsOn 35 = .ok (.iload_n 1, 1) := by decide +kernel
theorem dX7_jumpsOn_36 : decode cX7_jumpsOn 36 = .ok (.iadd, 1) := by decide +kernel
theorem dX7_jumpsOn_37 : decode cX7_jumpsOn 37 = .ok (.istore 6, 2) := by decide +kernel
theorem dX7_jumpsOn_39 : decode cX7_jumpsOn 39 = .ok (.aload_n 0, 1) := by decide +kernel
theorem dX7_jumpsOn_40 : decode cX7_jumpsOn 40 = .ok (.getfield 31, 3) := by decide +kernel
theorem dX7_jumpsOn_43 : decode cX7_jumpsOn 43 = .ok (.iload 6, 2) := by decide +kernel
theorem dX7_jumpsOn_45 : decode cX7_jumpsOn 45 = .ok (.iaload, 1) := by decide +kernel
theorem dX7_jumpsOn_46 : decode cX7_jumpsOn 46 = .ok (.iload_n 2, 1) := by decide +kernel
theorem dX7_jumpsOn_47 : decode cX7_jumpsOn 47 = .ok (.if_icmp .ge 7, 3) := by decide +kernel
theorem dX7_jumpsOn_50 : decode cX7_jumpsOn 50 = .ok (.iconst 1, 1) := by decide +kernel
theorem dX7_jumpsOn_51 : decode cX7_jumpsOn 51 = .ok (.goto 4, 3) := by decide +kernel
theorem dX7_jumpsOn_54 : decode cX7_jumpsOn 54 = .ok (.iconst 0, 1) := by decide +kernel
theorem dX7_jumpsOn_55 : decode cX7_jumpsOn 55 = .ok (.istore 7, 2) := by decide +kernel
theorem dX7_jumpsOn_57 : decode cX7_jumpsOn 57 = .ok (.aload_n 0, 1) := by decide +kernel
theorem dX7_jumpsOn_58 : decode cX7_jumpsOn 58 = .ok (.getfield 31, 3) := by decide +kernel
theorem dX7_jumpsOn_61 : decode cX7_jumpsOn 61 = .ok (.iload 6, 2) := by decide +kernel
theorem dX7_jumpsOn_63 : decode cX7_jumpsOn 63 = .ok (.aload_n 0, 1) := by decide +kernel
theorem dX7_jumpsOn_64 : decode cX7_jumpsOn 64 = .ok (.getfield 31, 3) := by decide +kernel
theorem dX7_jumpsOn_67 : decode cX7_jumpsOn 67 = .ok (.iload 6, 2) := by decide +kernel
theorem dX7_jumpsOn_69 : decode cX7_jumpsOn 69 = .ok (.iaload, 1) := by decide +kernel
theorem dX7_jumpsOn_70 : decode cX7_jumpsOn 70 = .ok (.aload_n 0, 1) := by decide +kernel
theorem dX7_jumpsOn_71 : decode cX7_jumpsOn 71 = .ok (.getfield 22, 3) := by decide +kernel
theorem dX7_jumpsOn_74 : decode cX7_jumpsOn 74 = .ok (.iconst 4, 1) := by decide +kernel
theorem dX7_jumpsOn_75 : decode cX7_jumpsOn 75 = .ok (.iload 5, 2) := by decide +kernel
theorem dX7_jumpsOn_77 : decode cX7_jumpsOn 77 = .ok (.imul, 1) := by decide +kernel
theorem dX7_jumpsOn_78 : decode cX7_jumpsOn 78 = .ok (.iload_n 1, 1) := by decide +kernel
theorem dX7_jumpsOn_79 : decode cX7_jumpsOn 79 = .ok (.iadd, 1) := by decide +kernel
theorem dX7_jumpsOn_80 : decode cX7_jumpsOn 80 = .ok (.iaload, 1) := by decide +kernel
theorem dX7_jumpsOn_81 : decode cX7_jumpsOn 81 = .ok (.iadd, 1) := by decide +kernel
theorem dX7_jumpsOn_82 : decode cX7_jumpsOn 82 = .ok (.iconst 3, 1) := by decide +kernel
theorem dX7_jumpsOn_83 : decode cX7_jumpsOn 83 = .ok (.isub, 1) := by decide +kernel
theorem dX7_jumpsOn_84 : decode cX7_jumpsOn 84 = .ok (.aload_n 0, 1) := by decide +kernel
theorem dX7_jumpsOn_85 : decode cX7_jumpsOn 85 = .ok (.getfield 13, 3) := by decide +kernel
theorem dX7_jumpsOn_88 : decode cX7_jumpsOn 88 = .ok (.iload_n 1, 1) := by decide +kernel
theorem dX7_jumpsOn_89 : decode cX7_jumpsOn 89 = .ok (.iaload, 1) := by decide +kernel
theorem dX7_jumpsOn_90 : decode cX7_jumpsOn 90 = .ok (.invokestatic 180, 3) := by decide +kernel
theorem dX7_jumpsOn_93 : decode cX7_jumpsOn 93 = .ok (.iastore, 1) := by decide +kernel
theorem dX7_jumpsOn_94 : decode cX7_jumpsOn 94 = .ok (.iload_n 3, 1) := by decide +kernel
theorem dX7_jumpsOn_95 : decode cX7_jumpsOn 95 = .ok (.iload 7, 2) := by decide +kernel
theorem dX7_jumpsOn_97 : decode cX7_jumpsOn 97 = .ok (.aload_n 0, 1) := by decide +kernel
theorem dX7_jumpsOn_98 : decode cX7_jumpsOn 98 = .ok (.getfield 31, 3) := by decide +kernel
theorem dX7_jumpsOn_101 : decode cX7_jumpsOn 101 = .ok (.iload 6, 2) := by decide +kernel
theorem dX7_jumpsOn_103 : decode cX7_jumpsOn 103 = .ok (.iaload, 1) := by decide +kernel
theorem dX7_jumpsOn_104 : decode cX7_jumpsOn 104 = .ok (.iload_n 2, 1) := by decide +kernel
theorem dX7_jumpsOn_105 : decode cX7_jumpsOn 105 = .ok (.if_icmp .ge 7, 3) := by decide +kernel
theorem dX7_jumpsOn_108 : decode cX7_jumpsOn 108 = .ok (.iconst 1, 1) := by decide +kernel
theorem dX7_jumpsOn_109 : decode cX7_jumpsOn 109 = .ok (.goto 4, 3) := by decide +kernel
theorem dX7_jumpsOn_112 : decode cX7_jumpsOn 112 = .ok (.iconst 0, 1) := by decide +kernel
theorem dX7_jumpsOn_113 : decode cX7_jumpsOn 113 = .ok (.if_icmp .ne 7, 3) := by decide +kernel
theorem dX7_jumpsOn_116 : decode cX7_jumpsOn 116 = .ok (.iconst 0, 1) := by decide +kernel
theorem dX7_jumpsOn_117 : decode cX7_jumpsOn 117 = .ok (.goto 4, 3) := by decide +kernel
theorem dX7_jumpsOn_120 : decode cX7_jumpsOn 120 = .ok (.iconst 1, 1) := by decide +kernel
theorem dX7_jumpsOn_121 : decode cX7_jumpsOn 121 = .ok (.iadd, 1) := by decide +kernel
theorem dX7_jumpsOn_122 : decode cX7_jumpsOn 122 = .ok (.istore_n 3, 1) := by decide +kernel
theorem dX7_jumpsOn_123 : decode cX7_jumpsOn 123 = .ok (.iinc 5 1, 3) := by decide +kernel
theorem dX7_jumpsOn_126 : decode cX7_jumpsOn 126 = .ok (.goto (-107), 3) := by decide +kernel
theorem dX7_jumpsOn_129 : decode cX7_jumpsOn 129 = .ok (.iinc 4 1, 3) := by decide +kernel
theorem dX7_jumpsOn_132 : decode cX7_jumpsOn 132 = .ok (.goto (-123), 3) := by decide +kernel
theorem dX7_jumpsOn_135 : decode cX7_jumpsOn 135 = .ok (.iload_n 3, 1) := by decide +kernel
theorem dX7_jumpsOn_136 : decode cX7_jumpsOn 136 = .ok (.ireturn, 1) := by decide +kernel
theorem dX7_bestJump_0 : decode cX7_bestJump 0 = .ok (.aload_n 0, 1) := by decide +kernel
theorem dX7_bestJump_1 : decode cX7_bestJump 1 = .ok (.iconst 0, 1) := by decide +kernel
theorem dX7_bestJump_2 : decode cX7_bestJump 2 = .ok (.putfield 75, 3) := by decide +kernel
theorem dX7_bestJump_5 : decode cX7_bestJump 5 = .ok (.aload_n 0, 1) := by decide +kernel
theorem dX7_bestJump_6 : decode cX7_bestJump 6 = .ok (.iload_n 1, 1) := by decide +kernel
theorem dX7_bestJump_7 : decode cX7_bestJump 7 = .ok (.invokevirtual 159, 3) := by decide +kernel
theorem dX7_bestJump_10 : decode cX7_bestJump 10 = .ok (.ifCond .eq 12, 3) := by decide +kernel
theorem dX7_bestJump_13 : decode cX7_bestJump 13 = .ok (.iload_n 2, 1) := by decide +kernel
theorem dX7_bestJump_14 : decode cX7_bestJump 14 = .ok (.iconst 0, 1) := by decide +kernel
theorem dX7_bestJump_15 : decode cX7_bestJump 15 = .ok (.iconst 1, 1) := by decide +kernel
theorem dX7_bestJump_16 : decode cX7_bestJump 16 = .ok (.invokestatic 78, 3) := by decide +kernel
theorem dX7_bestJump_19 : decode cX7_bestJump 19 = .ok (.ifCond .ne 5, 3) := by decide +kernel
theorem dX7_bestJump_22 : decode cX7_bestJump 22 = .ok (.iconst (-1), 1) := by decide +kernel
theorem dX7_bestJump_23 : decode cX7_bestJump 23 = .ok (.ireturn, 1) := by decide +kernel
theorem dX7_bestJump_24 : decode cX7_bestJump 24 = .ok (.bipush (-9), 2) := by decide +kernel
theorem dX7_bestJump_26 : decode cX7_bestJump 26 = .ok (.istore_n 3, 1) := by decide +kernel
theorem dX7_bestJump_27 : decode cX7_bestJump 27 = .ok (.bipush (-9), 2) := by decide +kernel
theorem dX7_bestJump_29 : decode cX7_bestJump 29 = .ok (.istore 4, 2) := by decide +kernel
theorem dX7_bestJump_31 : decode cX7_bestJump 31 = .ok (.iconst 1, 1) := by decide +kernel
theorem dX7_bestJump_32 : decode cX7_bestJump 32 = .ok (.istore 5, 2) := by decide +kernel
theorem dX7_bestJump_34 : decode cX7_bestJump 34 = .ok (.iload 5, 2) := by decide +kernel
theorem dX7_bestJump_36 : decode cX7_bestJump 36 = .ok (.aload_n 0, 1) := by decide +kernel
theorem dX7_bestJump_37 : decode cX7_bestJump 37 = .ok (.getfield 13, 3) := by decide +kernel
theorem dX7_bestJump_40 : decode cX7_bestJump 40 = .ok (.iload_n 1, 1) := by decide +kernel
theorem dX7_bestJump_41 : decode cX7_bestJump 41 = .ok (.iaload, 1) := by decide +kernel
theorem dX7_bestJump_42 : decode cX7_bestJump 42 = .ok (.if_icmp .gt 38, 3) := by decide +kernel
theorem dX7_bestJump_45 : decode cX7_bestJump 45 = .ok (.aload_n 0, 1) := by decide +kernel
theorem dX7_bestJump_46 : decode cX7_bestJump 46 = .ok (.iload_n 1, 1) := by decide +kernel
theorem dX7_bestJump_47 : decode cX7_bestJump 47 = .ok (.iload 5, 2) := by decide +kernel
theorem dX7_bestJump_49 : decode cX7_bestJump 49 = .ok (.invokevirtual 218, 3) := by decide +kernel
theorem dX7_bestJump_52 : decode cX7_bestJump 52 = .ok (.istore 6, 2) := by decide +kernel
theorem dX7_bestJump_54 : decode cX7_bestJump 54 = .ok (.iload_n 3, 1) := by decide +kernel
theorem dX7_bestJump_55 : decode cX7_bestJump 55 = .ok (.bipush (-9), 2) := by decide +kernel
theorem dX7_bestJump_57 : decode cX7_bestJump 57 = .ok (.if_icmp .eq 10, 3) := by decide +kernel
theorem dX7_bestJump_60 : decode cX7_bestJump 60 = .ok (.iload 6, 2) := by decide +kernel
theorem dX7_bestJump_62 : decode cX7_bestJump 62 = .ok (.iload 4, 2) := by decide +kernel
theorem dX7_bestJump_64 : decode cX7_bestJump 64 = .ok (.if_icmp .ge 10, 3) := by decide +kernel
theorem dX7_bestJump_67 : decode cX7_bestJump 67 = .ok (.iload 5, 2) := by decide +kernel
theorem dX7_bestJump_69 : decode cX7_bestJump 69 = .ok (.istore_n 3, 1) := by decide +kernel
theorem dX7_bestJump_70 : decode cX7_bestJump 70 = .ok (.iload 6, 2) := by decide +kernel
theorem dX7_bestJump_72 : decode cX7_bestJump 72 = .ok (.istore 4, 2) := by decide +kernel
theorem dX7_bestJump_74 : decode cX7_bestJump 74 = .ok (.iinc 5 1, 3) := by decide +kernel
theorem dX7_bestJump_77 : decode cX7_bestJump 77 = .ok (.goto (-43), 3) := by decide +kernel
theorem dX7_bestJump_80 : decode cX7_bestJump 80 = .ok (.iload_n 2, 1) := by decide +kernel
theorem dX7_bestJump_81 : decode cX7_bestJump 81 = .ok (.ifCond .ne 7, 3) := by decide +kernel
theorem dX7_bestJump_84 : decode cX7_bestJump 84 = .ok (.iload_n 3, 1) := by decide +kernel
theorem dX7_bestJump_85 : decode cX7_bestJump 85 = .ok (.goto 5, 3) := by decide +kernel
theorem dX7_bestJump_88 : decode cX7_bestJump 88 = .ok (.iload 4, 2) := by decide +kernel
theorem dX7_bestJump_90 : decode cX7_bestJump 90 = .ok (.ireturn, 1) := by decide +kernel
theorem dX7_plans_0 : decode cX7_plans 0 = .ok (.aload_n 0, 1) := by decide +kernel
theorem dX7_plans_1 : decode cX7_plans 1 = .ok (.iconst 0, 1) := by decide +kernel
theorem dX7_plans_2 : decode cX7_plans 2 = .ok (.putfield 75, 3) := by decide +kernel
theorem dX7_plans_5 : decode cX7_plans 5 = .ok (.aload_n 0, 1) := by decide +kernel
theorem dX7_plans_6 : decode cX7_plans 6 = .ok (.iload_n 1, 1) := by decide +kernel
theorem dX7_plans_7 : decode cX7_plans 7 = .ok (.invokevirtual 159, 3) := by decide +kernel
theorem dX7_plans_10 : decode cX7_plans 10 = .ok (.ifCond .eq 14, 3) := by decide +kernel
theorem dX7_plans_13 : decode cX7_plans 13 = .ok (.iload_n 2, 1) := by decide +kernel
theorem dX7_plans_14 : decode cX7_plans 14 = .ok (.bipush (-9), 2) := by decide +kernel
theorem dX7_plans_16 : decode cX7_plans 16 = .ok (.bipush 9, 2) := by decide +kernel
theorem dX7_plans_18 : decode cX7_plans 18 = .ok (.invokestatic 78, 3) := by decide +kernel
theorem dX7_plans_21 : decode cX7_plans 21 = .ok (.ifCond .ne 5, 3) := by decide +kernel
theorem dX7_plans_24 : decode cX7_plans 24 = .ok (.iconst (-1), 1) := by decide +kernel
theorem dX7_plans_25 : decode cX7_plans 25 = .ok (.ireturn, 1) := by decide +kernel
theorem dX7_plans_26 : decode cX7_plans 26 = .ok (.aload_n 0, 1) := by decide +kernel
theorem dX7_plans_27 : decode cX7_plans 27 = .ok (.getfield 153, 3) := by decide +kernel
theorem dX7_plans_30 : decode cX7_plans 30 = .ok (.iconst 5, 1) := by decide +kernel
theorem dX7_plans_31 : decode cX7_plans 31 = .ok (.if_icmp .ne 6, 3) := by decide +kernel
theorem dX7_plans_34 : decode cX7_plans 34 = .ok (.bipush (-3), 2) := by decide +kernel
theorem dX7_plans_36 : decode cX7_plans 36 = .ok (.ireturn, 1) := by decide +kernel
theorem dX7_plans_37 : decode cX7_plans 37 = .ok (.aload_n 0, 1) := by decide +kernel
theorem dX7_plans_38 : decode cX7_plans 38 = .ok (.getfield 44, 3) := by decide +kernel
theorem dX7_plans_41 : decode cX7_plans 41 = .ok (.aload_n 0, 1) := by decide +kernel
theorem dX7_plans_42 : decode cX7_plans 42 = .ok (.getfield 153, 3) := by decide +kernel
theorem dX7_plans_45 : decode cX7_plans 45 = .ok (.iload_n 1, 1) := by decide +kernel
theorem dX7_plans_46 : decode cX7_plans 46 = .ok (.iastore, 1) := by decide +kernel
theorem dX7_plans_47 : decode cX7_plans 47 = .ok (.aload_n 0, 1) := by decide +kernel
theorem dX7_plans_48 : decode cX7_plans 48 = .ok (.getfield 47, 3) := by decide +kernel
theorem dX7_plans_51 : decode cX7_plans 51 = .ok (.aload_n 0, 1) := by decide +kernel
theorem dX7_plans_52 : decode cX7_plans 52 = .ok (.getfield 153, 3) := by decide +kernel
theorem dX7_plans_55 : decode cX7_plans 55 = .ok (.iload_n 2, 1) := by decide +kernel
theorem dX7_plans_56 : decode cX7_plans 56 = .ok (.iastore, 1) := by decide +kernel
theorem dX7_plans_57 : decode cX7_plans 57 = .ok (.aload_n 0, 1) := by decide +kernel
theorem dX7_plans_58 : decode cX7_plans 58 = .ok (.dup, 1) := by decide +kernel
theorem dX7_plans_59 : decode cX7_plans 59 = .ok (.getfield 153, 3) := by decide +kernel
theorem dX7_plans_62 : decode cX7_plans 62 = .ok (.iconst 1, 1) := by decide +kernel
theorem dX7_plans_63 : decode cX7_plans 63 = .ok (.iadd, 1) := by decide +kernel
theorem dX7_plans_64 : decode cX7_plans 64 = .ok (.putfield 153, 3) := by decide +kernel
theorem dX7_plans_67 : decode cX7_plans 67 = .ok (.aload_n 0, 1) := by decide +kernel
theorem dX7_plans_68 : decode cX7_plans 68 = .ok (.getfield 153, 3) := by decide +kernel
theorem dX7_plans_71 : decode cX7_plans 71 = .ok (.ireturn, 1) := by decide +kernel
theorem dX7_drop_0 : decode cX7_drop 0 = .ok (.aload_n 0, 1) := by decide +kernel
theorem dX7_drop_1 : decode cX7_drop 1 = .ok (.iconst 0, 1) := by decide +kernel
theorem dX7_drop_2 : decode cX7_drop 2 = .ok (.putfield 75, 3) := by decide +kernel
theorem dX7_drop_5 : decode cX7_drop 5 = .ok (.aload_n 0, 1) := by decide +kernel
theorem dX7_drop_6 : decode cX7_drop 6 = .ok (.getfield 153, 3) := by decide +kernel
theorem dX7_drop_9 : decode cX7_drop 9 = .ok (.istore_n 1, 1) := by decide +kernel
theorem dX7_drop_10 : decode cX7_drop 10 = .ok (.aload_n 0, 1) := by decide +kernel
theorem dX7_drop_11 : decode cX7_drop 11 = .ok (.iconst 0, 1) := by decide +kernel
theorem dX7_drop_12 : decode cX7_drop 12 = .ok (.putfield 153, 3) := by decide +kernel
theorem dX7_drop_15 : decode cX7_drop 15 = .ok (.iload_n 1, 1) := by decide +kernel
theorem dX7_drop_16 : decode cX7_drop 16 = .ok (.ireturn, 1) := by decide +kernel
theorem dX7_isOrder_0 : decode cX7_isOrder 0 = .ok (.iconst 0, 1) := by decide +kernel
theorem dX7_isOrder_1 : decode cX7_isOrder 1 = .ok (.istore 5, 2) := by decide +kernel
theorem dX7_isOrder_3 : decode cX7_isOrder 3 = .ok (.iload_n 2, 1) := by decide +kernel
theorem dX7_isOrder_4 : decode cX7_isOrder 4 = .ok (.istore 6, 2) := by decide +kernel
theorem dX7_isOrder_6 : decode cX7_isOrder 6 = .ok (.iload_n 3, 1) := by decide +kernel
theorem dX7_isOrder_7 : decode cX7_isOrder 7 = .ok (.iconst 1, 1) := by decide +kernel
theorem dX7_isOrder_8 : decode cX7_isOrder 8 = .ok (.isub, 1) := by decide +kernel
theorem dX7_isOrder_9 : decode cX7_isOrder 9 = .ok (.istore 7, 2) := by decide +kernel
theorem dX7_isOrder_11 : decode cX7_isOrder 11 = .ok (.iload 7, 2) := by decide +kernel
theorem dX7_isOrder_13 : decode cX7_isOrder 13 = .ok (.ifCond .lt 46, 3) := by decide +kernel
theorem dX7_isOrder_16 : decode cX7_isOrder 16 = .ok (.aload_n 0, 1) := by decide +kernel
theorem dX7_isOrder_17 : decode cX7_isOrder 17 = .ok (.getfield 59, 3) := by decide +kernel
theorem dX7_isOrder_20 : decode cX7_isOrder 20 = .ok (.iload 7, 2) := by decide +kernel
theorem dX7_isOrder_22 : decode cX7_isOrder 22 = .ok (.iload 6, 2) := by decide +kernel
theorem dX7_isOrder_24 : decode cX7_isOrder 24 = .ok (.aload_n 0, 1) := by decide +kernel
theorem dX7_isOrder_25 : decode cX7_isOrder 25 = .ok (.getfield 153, 3) := by decide +kernel
theorem dX7_isOrder_28 : decode cX7_isOrder 28 = .ok (.irem, 1) := by decide +kernel
theorem dX7_isOrder_29 : decode cX7_isOrder 29 = .ok (.iastore, 1) := by decide +kernel
theorem dX7_isOrder_30 : decode cX7_isOrder 30 = .ok (.iload 5, 2) := by decide +kernel
theorem dX7_isOrder_32 : decode cX7_isOrder 32 = .ok (.iconst 1, 1) := by decide +kernel
theorem dX7_isOrder_33 : decode cX7_isOrder 33 = .ok (.aload_n 0, 1) := by decide +kernel
theorem dX7_isOrder_34 : decode cX7_isOrder 34 = .ok (.getfield 59, 3) := by decide +kernel
theorem dX7_isOrder_37 : decode cX7_isOrder 37 = .ok (.iload 7, 2) := by decide +kernel
theorem dX7_isOrder_39 : decode cX7_isOrder 39 = .ok (.iaload, 1) := by decide +kernel
theorem dX7_isOrder_40 : decode cX7_isOrder 40 = .ok (.ishl, 1) := by decide +kernel
theorem dX7_isOrder_41 : decode cX7_isOrder 41 = .ok (.ior, 1) := by decide +kernel
theorem dX7_isOrder_42 : decode cX7_isOrder 42 = .ok (.istore 5, 2) := by decide +kernel
theorem dX7_isOrder_44 : decode cX7_isOrder 44 = .ok (.iload 6, 2) := by decide +kernel
theorem dX7_isOrder_46 : decode cX7_isOrder 46 = .ok (.aload_n 0, 1) := by decide +kernel
theorem dX7_isOrder_47 : decode cX7_isOrder 47 = .ok (.getfield 153, 3) := by decide +kernel
theorem dX7_isOrder_50 : decode cX7_isOrder 50 = .ok (.idiv, 1) := by decide +kernel
theorem dX7_isOrder_51 : decode cX7_isOrder 51 = .ok (.istore 6, 2) := by decide +kernel
theorem dX7_isOrder_53 : decode cX7_isOrder 53 = .ok (.iinc 7 (-1), 3) := by decide +kernel
theorem dX7_isOrder_56 : decode cX7_isOrder 56 = .ok (.goto (-45), 3) := by decide +kernel
theorem dX7_isOrder_59 : decode cX7_isOrder 59 = .ok (.iload 4, 2) := by decide +kernel
theorem dX7_isOrder_61 : decode cX7_isOrder 61 = .ok (.bipush (-9), 2) := by decide +kernel
theorem dX7_isOrder_63 : decode cX7_isOrder 63 = .ok (.if_icmp .ne 14, 3) := by decide +kernel
theorem dX7_isOrder_66 : decode cX7_isOrder 66 = .ok (.iconst 1, 1) := by decide +kernel
theorem dX7_isOrder_67 : decode cX7_isOrder 67 = .ok (.aload_n 0, 1) := by decide +kernel
theorem dX7_isOrder_68 : decode cX7_isOrder 68 = .ok (.getfield 153, 3) := by decide +kernel
theorem dX7_isOrder_71 : decode cX7_isOrder 71 = .ok (.ishl, 1) := by decide +kernel
theorem dX7_isOrder_72 : decode cX7_isOrder 72 = .ok (.iconst 1, 1) := by decide +kernel
theorem dX7_isOrder_73 : decode cX7_isOrder 73 = .ok (.isub, 1) := by decide +kernel
theorem dX7_isOrder_74 : decode cX7_isOrder 74 = .ok (.goto 18, 3) := by decide +kernel
theorem dX7_isOrder_77 : decode cX7_isOrder 77 = .ok (.iconst 1, 1) := by decide +kernel
theorem dX7_isOrder_78 : decode cX7_isOrder 78 = .ok (.aload_n 0, 1) := by decide +kernel
theorem dX7_isOrder_79 : decode cX7_isOrder 79 = .ok (.getfield 153, 3) := by decide +kernel
theorem dX7_isOrder_82 : decode cX7_isOrder 82 = .ok (.ishl, 1) := by decide +kernel
theorem dX7_isOrder_83 : decode cX7_isOrder 83 = .ok (.iconst 1, 1) := by decide +kernel
theorem dX7_isOrder_84 : decode cX7_isOrder 84 = .ok (.isub, 1) := by decide +kernel
theorem dX7_isOrder_85 : decode cX7_isOrder 85 = .ok (.iconst 1, 1) := by decide +kernel
theorem dX7_isOrder_86 : decode cX7_isOrder 86 = .ok (.iload 4, 2) := by decide +kernel
theorem dX7_isOrder_88 : decode cX7_isOrder 88 = .ok (.ishl, 1) := by decide +kernel
theorem dX7_isOrder_89 : decode cX7_isOrder 89 = .ok (.iconst (-1), 1) := by decide +kernel
theorem dX7_isOrder_90 : decode cX7_isOrder 90 = .ok (.ixor, 1) := by decide +kernel
theorem dX7_isOrder_91 : decode cX7_isOrder 91 = .ok (.iand, 1) := by decide +kernel
theorem dX7_isOrder_92 : decode cX7_isOrder 92 = .ok (.istore 7, 2) := by decide +kernel
theorem dX7_isOrder_94 : decode cX7_isOrder 94 = .ok (.iload 5, 2) := by decide +kernel
theorem dX7_isOrder_96 : decode cX7_isOrder 96 = .ok (.iload 7, 2) := by decide +kernel
theorem dX7_isOrder_98 : decode cX7_isOrder 98 = .ok (.if_icmp .eq 5, 3) := by decide +kernel
theorem dX7_isOrder_101 : decode cX7_isOrder 101 = .ok (.iconst 0, 1) := by decide +kernel
theorem dX7_isOrder_102 : decode cX7_isOrder 102 = .ok (.ireturn, 1) := by decide +kernel
theorem dX7_isOrder_103 : decode cX7_isOrder 103 = .ok (.aload_n 0, 1) := by decide +kernel
theorem dX7_isOrder_104 : decode cX7_isOrder 104 = .ok (.invokevirtual 211, 3) := by decide +kernel
theorem dX7_isOrder_107 : decode cX7_isOrder 107 = .ok (.iconst 0, 1) := by decide +kernel
theorem dX7_isOrder_108 : decode cX7_isOrder 108 = .ok (.istore 8, 2) := by decide +kernel
theorem dX7_isOrder_110 : decode cX7_isOrder 110 = .ok (.iload 8, 2) := by decide +kernel
theorem dX7_isOrder_112 : decode cX7_isOrder 112 = .ok (.iload_n 3, 1) := by decide +kernel
theorem dX7_isOrder_113 : decode cX7_isOrder 113 = .ok (.if_icmp .ge 93, 3) := by decide +kernel
theorem dX7_isOrder_116 : decode cX7_isOrder 116 = .ok (.bipush 8, 2) := by decide +kernel
theorem dX7_isOrder_118 : decode cX7_isOrder 118 = .ok (.iconst 4, 1) := by decide +kernel
theorem dX7_isOrder_119 : decode cX7_isOrder 119 = .ok (.iload_n 1, 1) := by decide +kernel
theorem dX7_isOrder_120 : decode cX7_isOrder 120 = .ok (.imul, 1) := by decide +kernel
theorem dX7_isOrder_121 : decode cX7_isOrder 121 = .ok (.iadd, 1) := by decide +kernel
theorem dX7_isOrder_122 : decode cX7_isOrder 122 = .ok (.aload_n 0, 1) := by decide +kernel
theorem dX7_isOrder_123 : decode cX7_isOrder 123 = .ok (.getfield 44, 3) := by decide +kernel
theorem dX7_isOrder_126 : decode cX7_isOrder 126 = .ok (.aload_n 0, 1) := by decide +kernel
theorem dX7_isOrder_127 : decode cX7_isOrder 127 = .ok (.getfield 59, 3) := by decide +kernel
theorem dX7_isOrder_130 : decode cX7_isOrder 130 = .ok (.iload 8, 2) := by decide +kernel
theorem dX7_isOrder_132 : decode cX7_isOrder 132 = .ok (.iaload, 1) := by decide +kernel
theorem dX7_isOrder_133 : decode cX7_isOrder 133 = .ok (.iaload, 1) := by decide +kernel
theorem dX7_isOrder_134 : decode cX7_isOrder 134 = .ok (.iadd, 1) := by decide +kernel
theorem dX7_isOrder_135 : decode cX7_isOrder 135 = .ok (.istore 9, 2) := by decide +kernel
theorem dX7_isOrder_137 : decode cX7_isOrder 137 = .ok (.aload_n 0, 1) := by decide +kernel
theorem dX7_isOrder_138 : decode cX7_isOrder 138 = .ok (.getfield 31, 3) := by decide +kernel
theorem dX7_isOrder_141 : decode cX7_isOrder 141 = .ok (.iload 9, 2) := by decide +kernel
theorem dX7_isOrder_143 : decode cX7_isOrder 143 = .ok (.aload_n 0, 1) := by decide +kernel
theorem dX7_isOrder_144 : decode cX7_isOrder 144 = .ok (.getfield 31, 3) := by decide +kernel
theorem dX7_isOrder_147 : decode cX7_isOrder 147 = .ok (.iload 9, 2) := by decide +kernel
theorem dX7_isOrder_149 : decode cX7_isOrder 149 = .ok (.iaload, 1) := by decide +kernel
theorem dX7_isOrder_150 : decode cX7_isOrder 150 = .ok (.aload_n 0, 1) := by decide +kernel
theorem dX7_isOrder_151 : decode cX7_isOrder 151 = .ok (.getfield 47, 3) := by decide +kernel
theorem dX7_isOrder_154 : decode cX7_isOrder 154 = .ok (.aload_n 0, 1) := by decide +kernel
theorem dX7_isOrder_155 : decode cX7_isOrder 155 = .ok (.getfield 59, 3) := by decide +kernel
theorem dX7_isOrder_158 : decode cX7_isOrder 158 = .ok (.iload 8, 2) := by decide +kernel
theorem dX7_isOrder_160 : decode cX7_isOrder 160 = .ok (.iaload, 1) := by decide +kernel
theorem dX7_isOrder_161 : decode cX7_isOrder 161 = .ok (.iaload, 1) := by decide +kernel
theorem dX7_isOrder_162 : decode cX7_isOrder 162 = .ok (.iadd, 1) := by decide +kernel
theorem dX7_isOrder_163 : decode cX7_isOrder 163 = .ok (.aload_n 0, 1) := by decide +kernel
theorem dX7_isOrder_164 : decode cX7_isOrder 164 = .ok (.getfield 13, 3) := by decide +kernel
theorem dX7_isOrder_167 : decode cX7_isOrder 167 = .ok (.aload_n 0, 1) := by decide +kernel
theorem dX7_isOrder_168 : decode cX7_isOrder 168 = .ok (.getfield 44, 3) := by decide +kernel
theorem dX7_isOrder_171 : decode cX7_isOrder 171 = .ok (.aload_n 0, 1) := by decide +kernel
theorem dX7_isOrder_172 : decode cX7_isOrder 172 = .ok (.getfield 59, 3) := by decide +kernel
theorem dX7_isOrder_175 : decode cX7_isOrder 175 = .ok (.iload 8, 2) := by decide +kernel
theorem dX7_isOrder_177 : decode cX7_isOrder 177 = .ok (.iaload, 1) := by decide +kernel
theorem dX7_isOrder_178 : decode cX7_isOrder 178 = .ok (.iaload, 1) := by decide +kernel
theorem dX7_isOrder_179 : decode cX7_isOrder 179 = .ok (.iaload, 1) := by decide +kernel
theorem dX7_isOrder_180 : decode cX7_isOrder 180 = .ok (.invokestatic 180, 3) := by decide +kernel
theorem dX7_isOrder_183 : decode cX7_isOrder 183 = .ok (.iastore, 1) := by decide +kernel
theorem dX7_isOrder_184 : decode cX7_isOrder 184 = .ok (.aload_n 0, 1) := by decide +kernel
theorem dX7_isOrder_185 : decode cX7_isOrder 185 = .ok (.aload_n 0, 1) := by decide +kernel
theorem dX7_isOrder_186 : decode cX7_isOrder 186 = .ok (.getfield 31, 3) := by decide +kernel
theorem dX7_isOrder_189 : decode cX7_isOrder 189 = .ok (.iload_n 1, 1) := by decide +kernel
theorem dX7_isOrder_190 : decode cX7_isOrder 190 = .ok (.invokevirtual 190, 3) := by decide +kernel
theorem dX7_isOrder_193 : decode cX7_isOrder 193 = .ok (.bipush (-9), 2) := by decide +kernel
theorem dX7_isOrder_195 : decode cX7_isOrder 195 = .ok (.if_icmp .eq 5, 3) := by decide +kernel
theorem dX7_isOrder_198 : decode cX7_isOrder 198 = .ok (.iconst 0, 1) := by decide +kernel
theorem dX7_isOrder_199 : decode cX7_isOrder 199 = .ok (.ireturn, 1) := by decide +kernel
theorem dX7_isOrder_200 : decode cX7_isOrder 200 = .ok (.iinc 8 1, 3) := by decide +kernel
theorem dX7_isOrder_203 : decode cX7_isOrder 203 = .ok (.goto (-93), 3) := by decide +kernel
theorem dX7_isOrder_206 : decode cX7_isOrder 206 = .ok (.iconst 1, 1) := by decide +kernel
theorem dX7_isOrder_207 : decode cX7_isOrder 207 = .ok (.ireturn, 1) := by decide +kernel
theorem dX7_ordersOf_0 : decode cX7_ordersOf 0 = .ok (.iload_n 2, 1) := by decide +kernel
theorem dX7_ordersOf_1 : decode cX7_ordersOf 1 = .ok (.bipush (-9), 2) := by decide +kernel
theorem dX7_ordersOf_3 : decode cX7_ordersOf 3 = .ok (.if_icmp .ne 10, 3) := by decide +kernel
theorem dX7_ordersOf_6 : decode cX7_ordersOf 6 = .ok (.aload_n 0, 1) := by decide +kernel
theorem dX7_ordersOf_7 : decode cX7_ordersOf 7 = .ok (.getfield 153, 3) := by decide +kernel
theorem dX7_ordersOf_10 : decode cX7_ordersOf 10 = .ok (.goto 9, 3) := by decide +kernel
theorem dX7_ordersOf_13 : decode cX7_ordersOf 13 = .ok (.aload_n 0, 1) := by decide +kernel
theorem dX7_ordersOf_14 : decode cX7_ordersOf 14 = .ok (.getfield 153, 3) := by decide +kernel
theorem dX7_ordersOf_17 : decode cX7_ordersOf 17 = .ok (.iconst 1, 1) := by decide +kernel
theorem dX7_ordersOf_18 : decode cX7_ordersOf 18 = .ok (.isub, 1) := by decide +kernel
theorem dX7_ordersOf_19 : decode cX7_ordersOf 19 = .ok (.istore_n 3, 1) := by decide +kernel
theorem dX7_ordersOf_20 : decode cX7_ordersOf 20 = .ok (.iconst 1, 1) := by decide +kernel
theorem dX7_ordersOf_21 : decode cX7_ordersOf 21 = .ok (.istore 4, 2) := by decide +kernel
theorem dX7_ordersOf_23 : decode cX7_ordersOf 23 = .ok (.iconst 0, 1) := by decide +kernel
theorem dX7_ordersOf_24 : decode cX7_ordersOf 24 = .ok (.istore 5, 2) := by decide +kernel
theorem dX7_ordersOf_26 : decode cX7_ordersOf 26 = .ok (.iload 5, 2) := by decide +kernel
theorem dX7_ordersOf_28 : decode cX7_ordersOf 28 = .ok (.iload_n 3, 1) := by decide +kernel
theorem dX7_ordersOf_29 : decode cX7_ordersOf 29 = .ok (.if_icmp .ge 18, 3) := by decide +kernel
theorem dX7_ordersOf_32 : decode cX7_ordersOf 32 = .ok (.iload 4, 2) := by decide +kernel
theorem dX7_ordersOf_34 : decode cX7_ordersOf 34 = .ok (.aload_n 0, 1) := by decide +kernel
theorem dX7_ordersOf_35 : decode cX7_ordersOf 35 = .ok (.getfield 153, 3) := by decide +kernel
theorem dX7_ordersOf_38 : decode cX7_ordersOf 38 = .ok (.imul, 1) := by decide +kernel
theorem dX7_ordersOf_39 : decode cX7_ordersOf 39 = .ok (.istore 4, 2) := by decide +kernel
theorem dX7_ordersOf_41 : decode cX7_ordersOf 41 = .ok (.iinc 5 1, 3) := by decide +kernel
theorem dX7_ordersOf_44 : decode cX7_ordersOf 44 = .ok (.goto (-18), 3) := by decide +kernel
theorem dX7_ordersOf_47 : decode cX7_ordersOf 47 = .ok (.iconst 0, 1) := by decide +kernel
theorem dX7_ordersOf_48 : decode cX7_ordersOf 48 = .ok (.istore 5, 2) := by decide +kernel
theorem dX7_ordersOf_50 : decode cX7_ordersOf 50 = .ok (.iconst 0, 1) := by decide +kernel
theorem dX7_ordersOf_51 : decode cX7_ordersOf 51 = .ok (.istore 6, 2) := by decide +kernel
theorem dX7_ordersOf_53 : decode cX7_ordersOf 53 = .ok (.iload 6, 2) := by decide +kernel
theorem dX7_ordersOf_55 : decode cX7_ordersOf 55 = .ok (.iload 4, 2) := by decide +kernel
theorem dX7_ordersOf_57 : decode cX7_ordersOf 57 = .ok (.if_icmp .ge 58, 3) := by decide +kernel
theorem dX7_ordersOf_60 : decode cX7_ordersOf 60 = .ok (.aload_n 0, 1) := by decide +kernel
theorem dX7_ordersOf_61 : decode cX7_ordersOf 61 = .ok (.iload_n 1, 1) := by decide +kernel
theorem dX7_ordersOf_62 : decode cX7_ordersOf 62 = .ok (.iload 6, 2) := by decide +kernel
theorem dX7_ordersOf_64 : decode cX7_ordersOf 64 = .ok (.iload_n 3, 1) := by decide +kernel
theorem dX7_ordersOf_65 : decode cX7_ordersOf 65 = .ok (.iload_n 2, 1) := by decide +kernel
theorem dX7_ordersOf_66 : decode cX7_ordersOf 66 = .ok (.invokevirtual 221, 3) := by decide +kernel
theorem dX7_ordersOf_69 : decode cX7_ordersOf 69 = .ok (.ifCond .eq 40, 3) := by decide +kernel
theorem dX7_ordersOf_72 : decode cX7_ordersOf 72 = .ok (.iconst 0, 1) := by decide +kernel
theorem dX7_ordersOf_73 : decode cX7_ordersOf 73 = .ok (.istore 7, 2) := by decide +kernel
theorem dX7_ordersOf_75 : decode cX7_ordersOf 75 = .ok (.iload 7, 2) := by decide +kernel
theorem dX7_ordersOf_77 : decode cX7_ordersOf 77 = .ok (.iload_n 3, 1) := by decide +kernel
theorem dX7_ordersOf_78 : decode cX7_ordersOf 78 = .ok (.if_icmp .ge 28, 3) := by decide +kernel
theorem dX7_ordersOf_81 : decode cX7_ordersOf 81 = .ok (.iload 5, 2) := by decide +kernel
theorem dX7_ordersOf_83 : decode cX7_ordersOf 83 = .ok (.ifCond .ne 23, 3) := by decide +kernel
theorem dX7_ordersOf_86 : decode cX7_ordersOf 86 = .ok (.aload_n 0, 1) := by decide +kernel
theorem dX7_ordersOf_87 : decode cX7_ordersOf 87 = .ok (.getfield 62, 3) := by decide +kernel
theorem dX7_ordersOf_90 : decode cX7_ordersOf 90 = .ok (.iload 7, 2) := by decide +kernel
theorem dX7_ordersOf_92 : decode cX7_ordersOf 92 = .ok (.aload_n 0, 1) := by decide +kernel
theorem dX7_ordersOf_93 : decode cX7_ordersOf 93 = .ok (.getfield 59, 3) := by decide +kernel
theorem dX7_ordersOf_96 : decode cX7_ordersOf 96 = .ok (.iload 7, 2) := by decide +kernel
theorem dX7_ordersOf_98 : decode cX7_ordersOf 98 = .ok (.iaload, 1) := by decide +kernel
theorem dX7_ordersOf_99 : decode cX7_ordersOf 99 = .ok (.iastore, 1) := by decide +kernel
theorem dX7_ordersOf_100 : decode cX7_ordersOf 100 = .ok (.iinc 7 1, 3) := by decide +kernel
theorem dX7_ordersOf_103 : decode cX7_ordersOf 103 = .ok (.goto (-28), 3) := by decide +kernel
theorem dX7_ordersOf_106 : decode cX7_ordersOf 106 = .ok (.iinc 5 1, 3) := by decide +kernel
theorem dX7_ordersOf_109 : decode cX7_ordersOf 109 = .ok (.iinc 6 1, 3) := by decide +kernel
theorem dX7_ordersOf_112 : decode cX7_ordersOf 112 = .ok (.goto (-59), 3) := by decide +kernel
theorem dX7_ordersOf_115 : decode cX7_ordersOf 115 = .ok (.iload 5, 2) := by decide +kernel
theorem dX7_ordersOf_117 : decode cX7_ordersOf 117 = .ok (.ireturn, 1) := by decide +kernel
theorem dX7_orders_0 : decode cX7_orders 0 = .ok (.aload_n 0, 1) := by decide +kernel
theorem dX7_orders_1 : decode cX7_orders 1 = .ok (.iconst 0, 1) := by decide +kernel
theorem dX7_orders_2 : decode cX7_orders 2 = .ok (.putfield 75, 3) := by decide +kernel
theorem dX7_orders_5 : decode cX7_orders 5 = .ok (.aload_n 0, 1) := by decide +kernel
theorem dX7_orders_6 : decode cX7_orders 6 = .ok (.iload_n 1, 1) := by decide +kernel
theorem dX7_orders_7 : decode cX7_orders 7 = .ok (.invokevirtual 171, 3) := by decide +kernel
theorem dX7_orders_10 : decode cX7_orders 10 = .ok (.ifCond .eq 8, 3) := by decide +kernel
theorem dX7_orders_13 : decode cX7_orders 13 = .ok (.iload_n 2, 1) := by decide +kernel
theorem dX7_orders_14 : decode cX7_orders 14 = .ok (.iconst (-1), 1) := by decide +kernel
theorem dX7_orders_15 : decode cX7_orders 15 = .ok (.if_icmp .ge 5, 3) := by decide +kernel
theorem dX7_orders_18 : decode cX7_orders 18 = .ok (.iconst (-1), 1) := by decide +kernel
theorem dX7_orders_19 : decode cX7_orders 19 = .ok (.ireturn, 1) := by decide +kernel
theorem dX7_orders_20 : decode cX7_orders 20 = .ok (.aload_n 0, 1) := by decide +kernel
theorem dX7_orders_21 : decode cX7_orders 21 = .ok (.iload_n 1, 1) := by decide +kernel
theorem dX7_orders_22 : decode cX7_orders 22 = .ok (.bipush (-9), 2) := by decide +kernel
theorem dX7_orders_24 : decode cX7_orders 24 = .ok (.invokevirtual 225, 3) := by decide +kernel
theorem dX7_orders_27 : decode cX7_orders 27 = .ok (.istore_n 3, 1) := by decide +kernel
theorem dX7_orders_28 : decode cX7_orders 28 = .ok (.iload_n 2, 1) := by decide +kernel
theorem dX7_orders_29 : decode cX7_orders 29 = .ok (.ifCond .ge 5, 3) := by decide +kernel
theorem dX7_orders_32 : decode cX7_orders 32 = .ok (.iload_n 3, 1) := by decide +kernel
theorem dX7_orders_33 : decode cX7_orders 33 = .ok (.ireturn, 1) := by decide +kernel
theorem dX7_orders_34 : decode cX7_orders 34 = .ok (.iload_n 3, 1) := by decide +kernel
theorem dX7_orders_35 : decode cX7_orders 35 = .ok (.ifCond .ne 8, 3) := by decide +kernel
theorem dX7_orders_38 : decode cX7_orders 38 = .ok (.bipush (-9), 2) := by decide +kernel
theorem dX7_orders_40 : decode cX7_orders 40 = .ok (.goto 22, 3) := by decide +kernel
theorem dX7_orders_43 : decode cX7_orders 43 = .ok (.iload_n 2, 1) := by decide +kernel
theorem dX7_orders_44 : decode cX7_orders 44 = .ok (.aload_n 0, 1) := by decide +kernel
theorem dX7_orders_45 : decode cX7_orders 45 = .ok (.getfield 153, 3) := by decide +kernel
theorem dX7_orders_48 : decode cX7_orders 48 = .ok (.if_icmp .ge 12, 3) := by decide +kernel
theorem dX7_orders_51 : decode cX7_orders 51 = .ok (.aload_n 0, 1) := by decide +kernel
theorem dX7_orders_52 : decode cX7_orders 52 = .ok (.getfield 62, 3) := by decide +kernel
theorem dX7_orders_55 : decode cX7_orders 55 = .ok (.iload_n 2, 1) := by decide +kernel
theorem dX7_orders_56 : decode cX7_orders 56 = .ok (.iaload, 1) := by decide +kernel
theorem dX7_orders_57 : decode cX7_orders 57 = .ok (.goto 5, 3) := by decide +kernel
theorem dX7_orders_60 : decode cX7_orders 60 = .ok (.bipush (-5), 2) := by decide +kernel
theorem dX7_orders_62 : decode cX7_orders 62 = .ok (.ireturn, 1) := by decide +kernel
theorem dX7_bars_0 : decode cX7_bars 0 = .ok (.aload_n 0, 1) := by decide +kernel
theorem dX7_bars_1 : decode cX7_bars 1 = .ok (.iconst 0, 1) := by decide +kernel
theorem dX7_bars_2 : decode cX7_bars 2 = .ok (.putfield 75, 3) := by decide +kernel
theorem dX7_bars_5 : decode cX7_bars 5 = .ok (.aload_n 0, 1) := by decide +kernel
theorem dX7_bars_6 : decode cX7_bars 6 = .ok (.iload_n 1, 1) := by decide +kernel
theorem dX7_bars_7 : decode cX7_bars 7 = .ok (.invokevirtual 171, 3) := by decide +kernel
theorem dX7_bars_10 : decode cX7_bars 10 = .ok (.ifCond .ne 5, 3) := by decide +kernel
theorem dX7_bars_13 : decode cX7_bars 13 = .ok (.iconst (-1), 1) := by decide +kernel
theorem dX7_bars_14 : decode cX7_bars 14 = .ok (.ireturn, 1) := by decide +kernel
theorem dX7_bars_15 : decode cX7_bars 15 = .ok (.aload_n 0, 1) := by decide +kernel
theorem dX7_bars_16 : decode cX7_bars 16 = .ok (.iload_n 1, 1) := by decide +kernel
theorem dX7_bars_17 : decode cX7_bars 17 = .ok (.bipush (-9), 2) := by decide +kernel
theorem dX7_bars_19 : decode cX7_bars 19 = .ok (.invokevirtual 225, 3) := by decide +kernel
theorem dX7_bars_22 : decode cX7_bars 22 = .ok (.ifCond .le 6, 3) := by decide +kernel
theorem dX7_bars_25 : decode cX7_bars 25 = .ok (.bipush (-9), 2) := by decide +kernel
theorem dX7_bars_27 : decode cX7_bars 27 = .ok (.ireturn, 1) := by decide +kernel
theorem dX7_bars_28 : decode cX7_bars 28 = .ok (.iconst 0, 1) := by decide +kernel
theorem dX7_bars_29 : decode cX7_bars 29 = .ok (.istore_n 2, 1) := by decide +kernel
theorem dX7_bars_30 : decode cX7_bars 30 = .ok (.iload_n 2, 1) := by decide +kernel
theorem dX7_bars_31 : decode cX7_bars 31 = .ok (.aload_n 0, 1) := by decide +kernel
theorem dX7_bars_32 : decode cX7_bars 32 = .ok (.getfield 153, 3) := by decide +kernel
theorem dX7_bars_35 : decode cX7_bars 35 = .ok (.if_icmp .ge 20, 3) := by decide +kernel
theorem dX7_bars_38 : decode cX7_bars 38 = .ok (.aload_n 0, 1) := by decide +kernel
theorem dX7_bars_39 : decode cX7_bars 39 = .ok (.iload_n 1, 1) := by decide +kernel
theorem dX7_bars_40 : decode cX7_bars 40 = .ok (.iload_n 2, 1) := by decide +kernel
theorem dX7_bars_41 : decode cX7_bars 41 = .ok (.invokevirtual 225, 3) := by decide +kernel
theorem dX7_bars_44 : decode cX7_bars 44 = .ok (.ifCond .le 5, 3) := by decide +kernel
theorem dX7_bars_47 : decode cX7_bars 47 = .ok (.iload_n 2, 1) := by decide +kernel
theorem dX7_bars_48 : decode cX7_bars 48 = .ok (.ireturn, 1) := by decide +kernel
theorem dX7_bars_49 : decode cX7_bars 49 = .ok (.iinc 2 1, 3) := by decide +kernel
theorem dX7_bars_52 : decode cX7_bars 52 = .ok (.goto (-22), 3) := by decide +kernel
theorem dX7_bars_55 : decode cX7_bars 55 = .ok (.bipush (-9), 2) := by decide +kernel
theorem dX7_bars_57 : decode cX7_bars 57 = .ok (.ireturn, 1) := by decide +kernel
theorem dX7_canJump_0 : decode cX7_canJump 0 = .ok (.aload_n 0, 1) := by decide +kernel
theorem dX7_canJump_1 : decode cX7_canJump 1 = .ok (.getfield 25, 3) := by decide +kernel
theorem dX7_canJump_4 : decode cX7_canJump 4 = .ok (.iload_n 2, 1) := by decide +kernel
theorem dX7_canJump_5 : decode cX7_canJump 5 = .ok (.iaload, 1) := by decide +kernel
theorem dX7_canJump_6 : decode cX7_canJump 6 = .ok (.aload_n 0, 1) := by decide +kernel
theorem dX7_canJump_7 : decode cX7_canJump 7 = .ok (.getfield 25, 3) := by decide +kernel
theorem dX7_canJump_10 : decode cX7_canJump 10 = .ok (.iload_n 3, 1) := by decide +kernel
theorem dX7_canJump_11 : decode cX7_canJump 11 = .ok (.iaload, 1) := by decide +kernel
theorem dX7_canJump_12 : decode cX7_canJump 12 = .ok (.if_icmp .ge 19, 3) := by decide +kernel
theorem dX7_canJump_15 : decode cX7_canJump 15 = .ok (.aload_n 0, 1) := by decide +kernel
theorem dX7_canJump_16 : decode cX7_canJump 16 = .ok (.getfield 25, 3) := by decide +kernel
theorem dX7_canJump_19 : decode cX7_canJump 19 = .ok (.iload_n 3, 1) := by decide +kernel
theorem dX7_canJump_20 : decode cX7_canJump 20 = .ok (.iaload, 1) := by decide +kernel
theorem dX7_canJump_21 : decode cX7_canJump 21 = .ok (.aload_n 0, 1) := by decide +kernel
theorem dX7_canJump_22 : decode cX7_canJump 22 = .ok (.getfield 25, 3) := by decide +kernel
theorem dX7_canJump_25 : decode cX7_canJump 25 = .ok (.iload_n 2, 1) := by decide +kernel
theorem dX7_canJump_26 : decode cX7_canJump 26 = .ok (.iaload, 1) := by decide +kernel
theorem dX7_canJump_27 : decode cX7_canJump 27 = .ok (.isub, 1) := by decide +kernel
theorem dX7_canJump_28 : decode cX7_canJump 28 = .ok (.goto 16, 3) := by decide +kernel
theorem dX7_canJump_31 : decode cX7_canJump 31 = .ok (.aload_n 0, 1) := by decide +kernel
theorem dX7_canJump_32 : decode cX7_canJump 32 = .ok (.getfield 25, 3) := by decide +kernel
theorem dX7_canJump_35 : decode cX7_canJump 35 = .ok (.iload_n 2, 1) := by decide +kernel
theorem dX7_canJump_36 : decode cX7_canJump 36 = .ok (.iaload, 1) := by decide +kernel
theorem dX7_canJump_37 : decode cX7_canJump 37 = .ok (.aload_n 0, 1) := by decide +kernel
theorem dX7_canJump_38 : decode cX7_canJump 38 = .ok (.getfield 25, 3) := by decide +kernel
theorem dX7_canJump_41 : decode cX7_canJump 41 = .ok (.iload_n 3, 1) := by decide +kernel
theorem dX7_canJump_42 : decode cX7_canJump 42 = .ok (.iaload, 1) := by decide +kernel
theorem dX7_canJump_43 : decode cX7_canJump 43 = .ok (.isub, 1) := by decide +kernel
theorem dX7_canJump_44 : decode cX7_canJump 44 = .ok (.istore 4, 2) := by decide +kernel
theorem dX7_canJump_46 : decode cX7_canJump 46 = .ok (.iload_n 2, 1) := by decide +kernel
theorem dX7_canJump_47 : decode cX7_canJump 47 = .ok (.iload_n 3, 1) := by decide +kernel
theorem dX7_canJump_48 : decode cX7_canJump 48 = .ok (.if_icmp .eq 33, 3) := by decide +kernel
theorem dX7_canJump_51 : decode cX7_canJump 51 = .ok (.iload 4, 2) := by decide +kernel
theorem dX7_canJump_53 : decode cX7_canJump 53 = .ok (.aload_n 0, 1) := by decide +kernel
theorem dX7_canJump_54 : decode cX7_canJump 54 = .ok (.getfield 13, 3) := by decide +kernel
theorem dX7_canJump_57 : decode cX7_canJump 57 = .ok (.iload_n 1, 1) := by decide +kernel
theorem dX7_canJump_58 : decode cX7_canJump 58 = .ok (.iaload, 1) := by decide +kernel
theorem dX7_canJump_59 : decode cX7_canJump 59 = .ok (.if_icmp .gt 22, 3) := by decide +kernel
theorem dX7_canJump_62 : decode cX7_canJump 62 = .ok (.aload_n 0, 1) := by decide +kernel
theorem dX7_canJump_63 : decode cX7_canJump 63 = .ok (.aload_n 0, 1) := by decide +kernel
theorem dX7_canJump_64 : decode cX7_canJump 64 = .ok (.getfield 28, 3) := by decide +kernel
theorem dX7_canJump_67 : decode cX7_canJump 67 = .ok (.iload_n 1, 1) := by decide +kernel
theorem dX7_canJump_68 : decode cX7_canJump 68 = .ok (.iload 4, 2) := by decide +kernel
theorem dX7_canJump_70 : decode cX7_canJump 70 = .ok (.invokevirtual 167, 3) := by decide +kernel
theorem dX7_canJump_73 : decode cX7_canJump 73 = .ok (.iconst 3, 1) := by decide +kernel
theorem dX7_canJump_74 : decode cX7_canJump 74 = .ok (.if_icmp .eq 7, 3) := by decide +kernel
theorem dX7_canJump_77 : decode cX7_canJump 77 = .ok (.iconst 1, 1) := by decide +kernel
theorem dX7_canJump_78 : decode cX7_canJump 78 = .ok (.goto 4, 3) := by decide +kernel
theorem dX7_canJump_81 : decode cX7_canJump 81 = .ok (.iconst 0, 1) := by decide +kernel
theorem dX7_canJump_82 : decode cX7_canJump 82 = .ok (.ireturn, 1) := by decide +kernel
theorem dX7_measures_0 : decode cX7_measures 0 = .ok (.iconst 0, 1) := by decide +kernel
theorem dX7_measures_1 : decode cX7_measures 1 = .ok (.istore_n 3, 1) := by decide +kernel
theorem dX7_measures_2 : decode cX7_measures 2 = .ok (.iload_n 3, 1) := by decide +kernel
theorem dX7_measures_3 : decode cX7_measures 3 = .ok (.aload_n 0, 1) := by decide +kernel
theorem dX7_measures_4 : decode cX7_measures 4 = .ok (.getfield 147, 3) := by decide +kernel
theorem dX7_measures_7 : decode cX7_measures 7 = .ok (.if_icmp .ge 26, 3) := by decide +kernel
theorem dX7_measures_10 : decode cX7_measures 10 = .ok (.aload_n 0, 1) := by decide +kernel
theorem dX7_measures_11 : decode cX7_measures 11 = .ok (.getfield 65, 3) := by decide +kernel
theorem dX7_measures_14 : decode cX7_measures 14 = .ok (.iload_n 3, 1) := by decide +kernel
theorem dX7_measures_15 : decode cX7_measures 15 = .ok (.iload_n 3, 1) := by decide +kernel
theorem dX7_measures_16 : decode cX7_measures 16 = .ok (.iload_n 2, 1) := by decide +kernel
theorem dX7_measures_17 : decode cX7_measures 17 = .ok (.if_icmp .ne 7, 3) := by decide +kernel
theorem dX7_measures_20 : decode cX7_measures 20 = .ok (.iconst 0, 1) := by decide +kernel
theorem dX7_measures_21 : decode cX7_measures 21 = .ok (.goto 5, 3) := by decide +kernel
theorem dX7_measures_24 : decode cX7_measures 24 = .ok (.bipush (-9), 2) := by decide +kernel
theorem dX7_measures_26 : decode cX7_measures 26 = .ok (.iastore, 1) := by decide +kernel
theorem dX7_measures_27 : decode cX7_measures 27 = .ok (.iinc 3 1, 3) := by decide +kernel
theorem dX7_measures_30 : decode cX7_measures 30 = .ok (.goto (-28), 3) := by decide +kernel
theorem dX7_measures_33 : decode cX7_measures 33 = .ok (.iconst 0, 1) := by decide +kernel
theorem dX7_measures_34 : decode cX7_measures 34 = .ok (.istore_n 3, 1) := by decide +kernel
theorem dX7_measures_35 : decode cX7_measures 35 = .ok (.iload_n 3, 1) := by decide +kernel
theorem dX7_measures_36 : decode cX7_measures 36 = .ok (.aload_n 0, 1) := by decide +kernel
theorem dX7_measures_37 : decode cX7_measures 37 = .ok (.getfield 147, 3) := by decide +kernel
theorem dX7_measures_40 : decode cX7_measures 40 = .ok (.if_icmp .ge 90, 3) := by decide +kernel
theorem dX7_measures_43 : decode cX7_measures 43 = .ok (.iconst 0, 1) := by decide +kernel
theorem dX7_measures_44 : decode cX7_measures 44 = .ok (.istore 4, 2) := by decide +kernel
theorem dX7_measures_46 : decode cX7_measures 46 = .ok (.iload 4, 2) := by decide +kernel
theorem dX7_measures_48 : decode cX7_measures 48 = .ok (.aload_n 0, 1) := by decide +kernel
theorem dX7_measures_49 : decode cX7_measures 49 = .ok (.getfield 147, 3) := by decide +kernel
theorem dX7_measures_52 : decode cX7_measures 52 = .ok (.if_icmp .ge 72, 3) := by decide +kernel
theorem dX7_measures_55 : decode cX7_measures 55 = .ok (.iconst 0, 1) := by decide +kernel
theorem dX7_measures_56 : decode cX7_measures 56 = .ok (.istore 5, 2) := by decide +kernel
theorem dX7_measures_58 : decode cX7_measures 58 = .ok (.iload 5, 2) := by decide +kernel
theorem dX7_measures_60 : decode cX7_measures 60 = .ok (.aload_n 0, 1) := by decide +kernel
theorem dX7_measures_61 : decode cX7_measures 61 = .ok (.getfield 147, 3) := by decide +kernel
theorem dX7_measures_64 : decode cX7_measures 64 = .ok (.if_icmp .ge 54, 3) := by decide +kernel
theorem dX7_measures_67 : decode cX7_measures 67 = .ok (.aload_n 0, 1) := by decide +kernel
theorem dX7_measures_68 : decode cX7_measures 68 = .ok (.getfield 65, 3) := by decide +kernel
theorem dX7_measures_71 : decode cX7_measures 71 = .ok (.iload 4, 2) := by decide +kernel
theorem dX7_measures_73 : decode cX7_measures 73 = .ok (.iaload, 1) := by decide +kernel
theorem dX7_measures_74 : decode cX7_measures 74 = .ok (.iload_n 3, 1) := by decide +kernel
theorem dX7_measures_75 : decode cX7_measures 75 = .ok (.if_icmp .ne 37, 3) := by decide +kernel
theorem dX7_measures_78 : decode cX7_measures 78 = .ok (.aload_n 0, 1) := by decide +kernel
theorem dX7_measures_79 : decode cX7_measures 79 = .ok (.getfield 65, 3) := by decide +kernel
theorem dX7_measures_82 : decode cX7_measures 82 = .ok (.iload 5, 2) := by decide +kernel
theorem dX7_measures_84 : decode cX7_measures 84 = .ok (.iaload, 1) := by decide +kernel
theorem dX7_measures_85 : decode cX7_measures 85 = .ok (.bipush (-9), 2) := by decide +kernel
theorem dX7_measures_87 : decode cX7_measures 87 = .ok (.if_icmp .ne 25, 3) := by decide +kernel
theorem dX7_measures_90 : decode cX7_measures 90 = .ok (.aload_n 0, 1) := by decide +kernel
theorem dX7_measures_91 : decode cX7_measures 91 = .ok (.iload_n 1, 1) := by decide +kernel
theorem dX7_measures_92 : decode cX7_measures 92 = .ok (.iload 4, 2) := by decide +kernel
theorem dX7_measures_94 : decode cX7_measures 94 = .ok (.iload 5, 2) := by decide +kernel
theorem dX7_measures_96 : decode cX7_measures 96 = .ok (.invokevirtual 228, 3) := by decide +kernel
theorem dX7_measures_99 : decode cX7_measures 99 = .ok (.ifCond .eq 13, 3) := by decide +kernel
theorem dX7_measures_102 : decode cX7_measures 102 = .ok (.aload_n 0, 1) := by decide +kernel
theorem dX7_measures_103 : decode cX7_measures 103 = .ok (.getfield 65, 3) := by decide +kernel
theorem dX7_measures_106 : decode cX7_measures 106 = .ok (.iload 5, 2) := by decide +kernel
theorem dX7_measures_108 : decode cX7_measures 108 = .ok (.iload_n 3, 1) := by decide +kernel
theorem dX7_measures_109 : decode cX7_measures 109 = .ok (.iconst 1, 1) := by decide +kernel
theorem dX7_measures_110 : decode cX7_measures 110 = .ok (.iadd, 1) := by decide +kernel
theorem dX7_measures_111 : decode cX7_measures 111 = .ok (.iastore, 1) := by decide +kernel
theorem dX7_measures_112 : decode cX7_measures 112 = .ok (.iinc 5 1, 3) := by decide +kernel
theorem dX7_measures_115 : decode cX7_measures 115 = .ok (.goto (-57), 3) := by decide +kernel
theorem dX7_measures_118 : decode cX7_measures 118 = .ok (.iinc 4 1, 3) := by decide +kernel
theorem dX7_measures_121 : decode cX7_measures 121 = .ok (.goto (-75), 3) := by decide +kernel
theorem dX7_measures_124 : decode cX7_measures 124 = .ok (.iinc 3 1, 3) := by decide +kernel
theorem dX7_measures_127 : decode cX7_measures 127 = .ok (.goto (-92), 3) := by decide +kernel
theorem dX7_measures_130 : decode cX7_measures 130 = .ok (.return_, 1) := by decide +kernel
theorem dX7_trip_0 : decode cX7_trip 0 = .ok (.aload_n 0, 1) := by decide +kernel
theorem dX7_trip_1 : decode cX7_trip 1 = .ok (.iconst 0, 1) := by decide +kernel
theorem dX7_trip_2 : decode cX7_trip 2 = .ok (.putfield 75, 3) := by decide +kernel
theorem dX7_trip_5 : decode cX7_trip 5 = .ok (.aload_n 0, 1) := by decide +kernel
theorem dX7_trip_6 : decode cX7_trip 6 = .ok (.iload_n 1, 1) := by decide +kernel
theorem dX7_trip_7 : decode cX7_trip 7 = .ok (.invokevirtual 159, 3) := by decide +kernel
theorem dX7_trip_10 : decode cX7_trip 10 = .ok (.ifCond .eq 29, 3) := by decide +kernel
theorem dX7_trip_13 : decode cX7_trip 13 = .ok (.aload_n 0, 1) := by decide +kernel
theorem dX7_trip_14 : decode cX7_trip 14 = .ok (.iload_n 2, 1) := by decide +kernel
theorem dX7_trip_15 : decode cX7_trip 15 = .ok (.invokevirtual 177, 3) := by decide +kernel
theorem dX7_trip_18 : decode cX7_trip 18 = .ok (.ifCond .eq 21, 3) := by decide +kernel
theorem dX7_trip_21 : decode cX7_trip 21 = .ok (.aload_n 0, 1) := by decide +kernel
theorem dX7_trip_22 : decode cX7_trip 22 = .ok (.iload_n 3, 1) := by decide +kernel
theorem dX7_trip_23 : decode cX7_trip 23 = .ok (.invokevirtual 177, 3) := by decide +kernel
theorem dX7_trip_26 : decode cX7_trip 26 = .ok (.ifCond .eq 13, 3) := by decide +kernel
theorem dX7_trip_29 : decode cX7_trip 29 = .ok (.iload 4, 2) := by decide +kernel
theorem dX7_trip_31 : decode cX7_trip 31 = .ok (.iconst 0, 1) := by decide +kernel
theorem dX7_trip_32 : decode cX7_trip 32 = .ok (.iconst 1, 1) := by decide +kernel
theorem dX7_trip_33 : decode cX7_trip 33 = .ok (.invokestatic 78, 3) := by decide +kernel
theorem dX7_trip_36 : decode cX7_trip 36 = .ok (.ifCond .ne 5, 3) := by decide +kernel
theorem dX7_trip_39 : decode cX7_trip 39 = .ok (.iconst (-1), 1) := by decide +kernel
theorem dX7_trip_40 : decode cX7_trip 40 = .ok (.ireturn, 1) := by decide +kernel
theorem dX7_trip_41 : decode cX7_trip 41 = .ok (.aload_n 0, 1) := by decide +kernel
theorem dX7_trip_42 : decode cX7_trip 42 = .ok (.iload_n 1, 1) := by decide +kernel
theorem dX7_trip_43 : decode cX7_trip 43 = .ok (.iload_n 3, 1) := by decide +kernel
theorem dX7_trip_44 : decode cX7_trip 44 = .ok (.invokevirtual 231, 3) := by decide +kernel
theorem dX7_trip_47 : decode cX7_trip 47 = .ok (.iload 4, 2) := by decide +kernel
theorem dX7_trip_49 : decode cX7_trip 49 = .ok (.ifCond .ne 10, 3) := by decide +kernel
theorem dX7_trip_52 : decode cX7_trip 52 = .ok (.aload_n 0, 1) := by decide +kernel
theorem dX7_trip_53 : decode cX7_trip 53 = .ok (.getfield 65, 3) := by decide +kernel
theorem dX7_trip_56 : decode cX7_trip 56 = .ok (.iload_n 2, 1) := by decide +kernel
theorem dX7_trip_57 : decode cX7_trip 57 = .ok (.iaload, 1) := by decide +kernel
theorem dX7_trip_58 : decode cX7_trip 58 = .ok (.ireturn, 1) := by decide +kernel
theorem dX7_trip_59 : decode cX7_trip 59 = .ok (.iconst 0, 1) := by decide +kernel
theorem dX7_trip_60 : decode cX7_trip 60 = .ok (.istore 5, 2) := by decide +kernel
theorem dX7_trip_62 : decode cX7_trip 62 = .ok (.iload 5, 2) := by decide +kernel
theorem dX7_trip_64 : decode cX7_trip 64 = .ok (.aload_n 0, 1) := by decide +kernel
theorem dX7_trip_65 : decode cX7_trip 65 = .ok (.getfield 147, 3) := by decide +kernel
theorem dX7_trip_68 : decode cX7_trip 68 = .ok (.if_icmp .ge 50, 3) := by decide +kernel
theorem dX7_trip_71 : decode cX7_trip 71 = .ok (.aload_n 0, 1) := by decide +kernel
theorem dX7_trip_72 : decode cX7_trip 72 = .ok (.getfield 65, 3) := by decide +kernel
theorem dX7_trip_75 : decode cX7_trip 75 = .ok (.iload_n 2, 1) := by decide +kernel
theorem dX7_trip_76 : decode cX7_trip 76 = .ok (.iaload, 1) := by decide +kernel
theorem dX7_trip_77 : decode cX7_trip 77 = .ok (.ifCond .le 35, 3) := by decide +kernel
theorem dX7_trip_80 : decode cX7_trip 80 = .ok (.aload_n 0, 1) := by decide +kernel
theorem dX7_trip_81 : decode cX7_trip 81 = .ok (.getfield 65, 3) := by decide +kernel
theorem dX7_trip_84 : decode cX7_trip 84 = .ok (.iload 5, 2) := by decide +kernel
theorem dX7_trip_86 : decode cX7_trip 86 = .ok (.iaload, 1) := by decide +kernel
theorem dX7_trip_87 : decode cX7_trip 87 = .ok (.aload_n 0, 1) := by decide +kernel
theorem dX7_trip_88 : decode cX7_trip 88 = .ok (.getfield 65, 3) := by decide +kernel
theorem dX7_trip_91 : decode cX7_trip 91 = .ok (.iload_n 2, 1) := by decide +kernel
theorem dX7_trip_92 : decode cX7_trip 92 = .ok (.iaload, 1) := by decide +kernel
theorem dX7_trip_93 : decode cX7_trip 93 = .ok (.iconst 1, 1) := by decide +kernel
theorem dX7_trip_94 : decode cX7_trip 94 = .ok (.isub, 1) := by decide +kernel
theorem dX7_trip_95 : decode cX7_trip 95 = .ok (.if_icmp .ne 17, 3) := by decide +kernel
theorem dX7_trip_98 : decode cX7_trip 98 = .ok (.aload_n 0, 1) := by decide +kernel
theorem dX7_trip_99 : decode cX7_trip 99 = .ok (.iload_n 1, 1) := by decide +kernel
theorem dX7_trip_100 : decode cX7_trip 100 = .ok (.iload_n 2, 1) := by decide +kernel
theorem dX7_trip_101 : decode cX7_trip 101 = .ok (.iload 5, 2) := by decide +kernel
theorem dX7_trip_103 : decode cX7_trip 103 = .ok (.invokevirtual 228, 3) := by decide +kernel
theorem dX7_trip_106 : decode cX7_trip 106 = .ok (.ifCond .eq 6, 3) := by decide +kernel
theorem dX7_trip_109 : decode cX7_trip 109 = .ok (.iload 5, 2) := by decide +kernel
theorem dX7_trip_111 : decode cX7_trip 111 = .ok (.ireturn, 1) := by decide +kernel
theorem dX7_trip_112 : decode cX7_trip 112 = .ok (.iinc 5 1, 3) := by decide +kernel
theorem dX7_trip_115 : decode cX7_trip 115 = .ok (.goto (-53), 3) := by decide +kernel
theorem dX7_trip_118 : decode cX7_trip 118 = .ok (.bipush (-9), 2) := by decide +kernel
theorem dX7_trip_120 : decode cX7_trip 120 = .ok (.ireturn, 1) := by decide +kernel
theorem dX7_isPart_0 : decode cX7_isPart 0 = .ok (.iload_n 2, 1) := by decide +kernel
theorem dX7_isPart_1 : decode cX7_isPart 1 = .ok (.iconst 1, 1) := by decide +kernel
theorem dX7_isPart_2 : decode cX7_isPart 2 = .ok (.aload_n 0, 1) := by decide +kernel
theorem dX7_isPart_3 : decode cX7_isPart 3 = .ok (.getfield 13, 3) := by decide +kernel
theorem dX7_isPart_6 : decode cX7_isPart 6 = .ok (.iload_n 1, 1) := by decide +kernel
theorem dX7_isPart_7 : decode cX7_isPart 7 = .ok (.iaload, 1) := by decide +kernel
theorem dX7_isPart_8 : decode cX7_isPart 8 = .ok (.invokestatic 78, 3) := by decide +kernel
theorem dX7_isPart_11 : decode cX7_isPart 11 = .ok (.ifCond .eq 21, 3) := by decide +kernel
theorem dX7_isPart_14 : decode cX7_isPart 14 = .ok (.aload_n 0, 1) := by decide +kernel
theorem dX7_isPart_15 : decode cX7_isPart 15 = .ok (.aload_n 0, 1) := by decide +kernel
theorem dX7_isPart_16 : decode cX7_isPart 16 = .ok (.getfield 28, 3) := by decide +kernel
theorem dX7_isPart_19 : decode cX7_isPart 19 = .ok (.iload_n 1, 1) := by decide +kernel
theorem dX7_isPart_20 : decode cX7_isPart 20 = .ok (.iload_n 2, 1) := by decide +kernel
theorem dX7_isPart_21 : decode cX7_isPart 21 = .ok (.invokevirtual 167, 3) := by decide +kernel
theorem dX7_isPart_24 : decode cX7_isPart 24 = .ok (.iconst 3, 1) := by decide +kernel
theorem dX7_isPart_25 : decode cX7_isPart 25 = .ok (.if_icmp .eq 7, 3) := by decide +kernel
theorem dX7_isPart_28 : decode cX7_isPart 28 = .ok (.iconst 1, 1) := by decide +kernel
theorem dX7_isPart_29 : decode cX7_isPart 29 = .ok (.goto 4, 3) := by decide +kernel
theorem dX7_isPart_32 : decode cX7_isPart 32 = .ok (.iconst 0, 1) := by decide +kernel
theorem dX7_isPart_33 : decode cX7_isPart 33 = .ok (.ireturn, 1) := by decide +kernel
theorem dX7_shares_0 : decode cX7_shares 0 = .ok (.aload_n 0, 1) := by decide +kernel
theorem dX7_shares_1 : decode cX7_shares 1 = .ok (.getfield 68, 3) := by decide +kernel
theorem dX7_shares_4 : decode cX7_shares 4 = .ok (.iconst 0, 1) := by decide +kernel
theorem dX7_shares_5 : decode cX7_shares 5 = .ok (.iconst 0, 1) := by decide +kernel
theorem dX7_shares_6 : decode cX7_shares 6 = .ok (.iastore, 1) := by decide +kernel
theorem dX7_shares_7 : decode cX7_shares 7 = .ok (.iconst 1, 1) := by decide +kernel
theorem dX7_shares_8 : decode cX7_shares 8 = .ok (.istore_n 3, 1) := by decide +kernel
theorem dX7_shares_9 : decode cX7_shares 9 = .ok (.iload_n 3, 1) := by decide +kernel
theorem dX7_shares_10 : decode cX7_shares 10 = .ok (.iload_n 2, 1) := by decide +kernel
theorem dX7_shares_11 : decode cX7_shares 11 = .ok (.if_icmp .gt 125, 3) := by decide +kernel
theorem dX7_shares_14 : decode cX7_shares 14 = .ok (.aload_n 0, 1) := by decide +kernel
theorem dX7_shares_15 : decode cX7_shares 15 = .ok (.getfield 68, 3) := by decide +kernel
theorem dX7_shares_18 : decode cX7_shares 18 = .ok (.iload_n 3, 1) := by decide +kernel
theorem dX7_shares_19 : decode cX7_shares 19 = .ok (.bipush (-9), 2) := by decide +kernel
theorem dX7_shares_21 : decode cX7_shares 21 = .ok (.iastore, 1) := by decide +kernel
theorem dX7_shares_22 : decode cX7_shares 22 = .ok (.iconst 1, 1) := by decide +kernel
theorem dX7_shares_23 : decode cX7_shares 23 = .ok (.istore 4, 2) := by decide +kernel
theorem dX7_shares_25 : decode cX7_shares 25 = .ok (.iload 4, 2) := by decide +kernel
theorem dX7_shares_27 : decode cX7_shares 27 = .ok (.iload_n 3, 1) := by decide +kernel
theorem dX7_shares_28 : decode cX7_shares 28 = .ok (.if_icmp .gt 102, 3) := by decide +kernel
theorem dX7_shares_31 : decode cX7_shares 31 = .ok (.aload_n 0, 1) := by decide +kernel
theorem dX7_shares_32 : decode cX7_shares 32 = .ok (.iload_n 1, 1) := by decide +kernel
theorem dX7_shares_33 : decode cX7_shares 33 = .ok (.iload 4, 2) := by decide +kernel
theorem dX7_shares_35 : decode cX7_shares 35 = .ok (.invokevirtual 235, 3) := by decide +kernel
theorem dX7_shares_38 : decode cX7_shares 38 = .ok (.ifCond .eq 21, 3) := by decide +kernel
theorem dX7_shares_41 : decode cX7_shares 41 = .ok (.aload_n 0, 1) := by decide +kernel
theorem dX7_shares_42 : decode cX7_shares 42 = .ok (.getfield 68, 3) := by decide +kernel
theorem dX7_shares_45 : decode cX7_shares 45 = .ok (.iload_n 3, 1) := by decide +kernel
theorem dX7_shares_46 : decode cX7_shares 46 = .ok (.iload 4, 2) := by decide +kernel
theorem dX7_shares_48 : decode cX7_shares 48 = .ok (.isub, 1) := by decide +kernel
theorem dX7_shares_49 : decode cX7_shares 49 = .ok (.iaload, 1) := by decide +kernel
theorem dX7_shares_50 : decode cX7_shares 50 = .ok (.bipush (-9), 2) := by decide +kernel
theorem dX7_shares_52 : decode cX7_shares 52 = .ok (.if_icmp .eq 7, 3) := by decide +kernel
theorem dX7_shares_55 : decode cX7_shares 55 = .ok (.iconst 1, 1) := by decide +kernel
theorem dX7_shares_56 : decode cX7_shares 56 = .ok (.goto 4, 3) := by decide +kernel
theorem dX7_shares_59 : decode cX7_shares 59 = .ok (.iconst 0, 1) := by decide +kernel
theorem dX7_shares_60 : decode cX7_shares 60 = .ok (.istore 5, 2) := by decide +kernel
theorem dX7_shares_62 : decode cX7_shares 62 = .ok (.aload_n 0, 1) := by decide +kernel
theorem dX7_shares_63 : decode cX7_shares 63 = .ok (.getfield 68, 3) := by decide +kernel
theorem dX7_shares_66 : decode cX7_shares 66 = .ok (.iload_n 3, 1) := by decide +kernel
theorem dX7_shares_67 : decode cX7_shares 67 = .ok (.iload 5, 2) := by decide +kernel
theorem dX7_shares_69 : decode cX7_shares 69 = .ok (.ifCond .eq 48, 3) := by decide +kernel
theorem dX7_shares_72 : decode cX7_shares 72 = .ok (.aload_n 0, 1) := by decide +kernel
theorem dX7_shares_73 : decode cX7_shares 73 = .ok (.getfield 68, 3) := by decide +kernel
theorem dX7_shares_76 : decode cX7_shares 76 = .ok (.iload_n 3, 1) := by decide +kernel
theorem dX7_shares_77 : decode cX7_shares 77 = .ok (.iaload, 1) := by decide +kernel
theorem dX7_shares_78 : decode cX7_shares 78 = .ok (.bipush (-9), 2) := by decide +kernel
theorem dX7_shares_80 : decode cX7_shares 80 = .ok (.if_icmp .eq 23, 3) := by decide +kernel
theorem dX7_shares_83 : decode cX7_shares 83 = .ok (.aload_n 0, 1) := by decide +kernel
theorem dX7_shares_84 : decode cX7_shares 84 = .ok (.getfield 68, 3) := by decide +kernel
theorem dX7_shares_87 : decode cX7_shares 87 = .ok (.iload_n 3, 1) := by decide +kernel
theorem dX7_shares_88 : decode cX7_shares 88 = .ok (.iload 4, 2) := by decide +kernel
theorem dX7_shares_90 : decode cX7_shares 90 = .ok (.isub, 1) := by decide +kernel
theorem dX7_shares_91 : decode cX7_shares 91 = .ok (.iaload, 1) := by decide +kernel
theorem dX7_shares_92 : decode cX7_shares 92 = .ok (.iconst 1, 1) := by decide +kernel
theorem dX7_shares_93 : decode cX7_shares 93 = .ok (.iadd, 1) := by decide +kernel
theorem dX7_shares_94 : decode cX7_shares 94 = .ok (.aload_n 0, 1) := by decide +kernel
theorem dX7_shares_95 : decode cX7_shares 95 = .ok (.getfield 68, 3) := by decide +kernel
theorem dX7_shares_98 : decode cX7_shares 98 = .ok (.iload_n 3, 1) := by decide +kernel
theorem dX7_shares_99 : decode cX7_shares 99 = .ok (.iaload, 1) := by decide +kernel
theorem dX7_shares_100 : decode cX7_shares 100 = .ok (.if_icmp .ge 17, 3) := by decide +kernel
theorem dX7_shares_103 : decode cX7_shares 103 = .ok (.aload_n 0, 1) := by decide +kernel
theorem dX7_shares_104 : decode cX7_shares 104 = .ok (.getfield 68, 3) := by decide +kernel
theorem dX7_shares_107 : decode cX7_shares 107 = .ok (.iload_n 3, 1) := by decide +kernel
theorem dX7_shares_108 : decode cX7_shares 108 = .ok (.iload 4, 2) := by decide +kernel
theorem dX7_shares_110 : decode cX7_shares 110 = .ok (.isub, 1) := by decide +kernel
theorem dX7_shares_111 : decode cX7_shares 111 = .ok (.iaload, 1) := by decide +kernel
theorem dX7_shares_112 : decode cX7_shares 112 = .ok (.iconst 1, 1) := by decide +kernel
theorem dX7_shares_113 : decode cX7_shares 113 = .ok (.iadd, 1) := by decide +kernel
theorem dX7_shares_114 : decode cX7_shares 114 = .ok (.goto 9, 3) := by decide +kernel
theorem dX7_shares_117 : decode cX7_shares 117 = .ok (.aload_n 0, 1) := by decide +kernel
theorem dX7_shares_118 : decode cX7_shares 118 = .ok (.getfield 68, 3) := by decide +kernel
theorem dX7_shares_121 : decode cX7_shares 121 = .ok (.iload_n 3, 1) := by decide +kernel
theorem dX7_shares_122 : decode cX7_shares 122 = .ok (.iaload, 1) := by decide +kernel
theorem dX7_shares_123 : decode cX7_shares 123 = .ok (.iastore, 1) := by decide +kernel
theorem dX7_shares_124 : decode cX7_shares 124 = .ok (.iinc 4 1, 3) := by decide +kernel
theorem dX7_shares_127 : decode cX7_shares 127 = .ok (.goto (-102), 3) := by decide +kernel
theorem dX7_shares_130 : decode cX7_shares 130 = .ok (.iinc 3 1, 3) := by decide +kernel
theorem dX7_shares_133 : decode cX7_shares 133 = .ok (.goto (-124), 3) := by decide +kernel
theorem dX7_shares_136 : decode cX7_shares 136 = .ok (.return_, 1) := by decide +kernel
theorem dX7_parts_0 : decode cX7_parts 0 = .ok (.aload_n 0, 1) := by decide +kernel
theorem dX7_parts_1 : decode cX7_parts 1 = .ok (.iconst 0, 1) := by decide +kernel
theorem dX7_parts_2 : decode cX7_parts 2 = .ok (.putfield 75, 3) := by decide +kernel
theorem dX7_parts_5 : decode cX7_parts 5 = .ok (.aload_n 0, 1) := by decide +kernel
theorem dX7_parts_6 : decode cX7_parts 6 = .ok (.iload_n 1, 1) := by decide +kernel
theorem dX7_parts_7 : decode cX7_parts 7 = .ok (.invokevirtual 159, 3) := by decide +kernel
theorem dX7_parts_10 : decode cX7_parts 10 = .ok (.ifCond .eq 22, 3) := by decide +kernel
theorem dX7_parts_13 : decode cX7_parts 13 = .ok (.iload_n 2, 1) := by decide +kernel
theorem dX7_parts_14 : decode cX7_parts 14 = .ok (.iconst 1, 1) := by decide +kernel
theorem dX7_parts_15 : decode cX7_parts 15 = .ok (.bipush 99, 2) := by decide +kernel
theorem dX7_parts_17 : decode cX7_parts 17 = .ok (.invokestatic 78, 3) := by decide +kernel
theorem dX7_parts_20 : decode cX7_parts 20 = .ok (.ifCond .eq 12, 3) := by decide +kernel
theorem dX7_parts_23 : decode cX7_parts 23 = .ok (.iload_n 3, 1) := by decide +kernel
theorem dX7_parts_24 : decode cX7_parts 24 = .ok (.iconst 0, 1) := by decide +kernel
theorem dX7_parts_25 : decode cX7_parts 25 = .ok (.iconst 1, 1) := by decide +kernel
theorem dX7_parts_26 : decode cX7_parts 26 = .ok (.invokestatic 78, 3) := by decide +kernel
theorem dX7_parts_29 : decode cX7_parts 29 = .ok (.ifCond .ne 5, 3) := by decide +kernel
theorem dX7_parts_32 : decode cX7_parts 32 = .ok (.iconst (-1), 1) := by decide +kernel
theorem dX7_parts_33 : decode cX7_parts 33 = .ok (.ireturn, 1) := by decide +kernel
theorem dX7_parts_34 : decode cX7_parts 34 = .ok (.aload_n 0, 1) := by decide +kernel
theorem dX7_parts_35 : decode cX7_parts 35 = .ok (.iload_n 1, 1) := by decide +kernel
theorem dX7_parts_36 : decode cX7_parts 36 = .ok (.iload_n 2, 1) := by decide +kernel
theorem dX7_parts_37 : decode cX7_parts 37 = .ok (.invokevirtual 239, 3) := by decide +kernel
theorem dX7_parts_40 : decode cX7_parts 40 = .ok (.iload_n 3, 1) := by decide +kernel
theorem dX7_parts_41 : decode cX7_parts 41 = .ok (.ifCond .eq 14, 3) := by decide +kernel
theorem dX7_parts_44 : decode cX7_parts 44 = .ok (.aload_n 0, 1) := by decide +kernel
theorem dX7_parts_45 : decode cX7_parts 45 = .ok (.getfield 68, 3) := by decide +kernel
theorem dX7_parts_48 : decode cX7_parts 48 = .ok (.iload_n 2, 1) := by decide +kernel
theorem dX7_parts_49 : decode cX7_parts 49 = .ok (.iaload, 1) := by decide +kernel
theorem dX7_parts_50 : decode cX7_parts 50 = .ok (.bipush (-9), 2) := by decide +kernel
theorem dX7_parts_52 : decode cX7_parts 52 = .ok (.if_icmp .ne 10, 3) := by decide +kernel
theorem dX7_parts_55 : decode cX7_parts 55 = .ok (.aload_n 0, 1) := by decide +kernel
theorem dX7_parts_56 : decode cX7_parts 56 = .ok (.getfield 68, 3) := by decide +kernel
theorem dX7_parts_59 : decode cX7_parts 59 = .ok (.iload_n 2, 1) := by decide +kernel
theorem dX7_parts_60 : decode cX7_parts 60 = .ok (.iaload, 1) := by decide +kernel
theorem dX7_parts_61 : decode cX7_parts 61 = .ok (.ireturn, 1) := by decide +kernel
theorem dX7_parts_62 : decode cX7_parts 62 = .ok (.bipush (-9), 2) := by decide +kernel
theorem dX7_parts_64 : decode cX7_parts 64 = .ok (.istore 4, 2) := by decide +kernel
theorem dX7_parts_66 : decode cX7_parts 66 = .ok (.iconst 1, 1) := by decide +kernel
theorem dX7_parts_67 : decode cX7_parts 67 = .ok (.istore 5, 2) := by decide +kernel
theorem dX7_parts_69 : decode cX7_parts 69 = .ok (.iload 5, 2) := by decide +kernel
theorem dX7_parts_71 : decode cX7_parts 71 = .ok (.iload_n 2, 1) := by decide +kernel
theorem dX7_parts_72 : decode cX7_parts 72 = .ok (.if_icmp .gt 48, 3) := by decide +kernel
theorem dX7_parts_75 : decode cX7_parts 75 = .ok (.aload_n 0, 1) := by decide +kernel
theorem dX7_parts_76 : decode cX7_parts 76 = .ok (.iload_n 1, 1) := by decide +kernel
theorem dX7_parts_77 : decode cX7_parts 77 = .ok (.iload 5, 2) := by decide +kernel
theorem dX7_parts_79 : decode cX7_parts 79 = .ok (.invokevirtual 235, 3) := by decide +kernel
theorem dX7_parts_82 : decode cX7_parts 82 = .ok (.ifCond .eq 28, 3) := by decide +kernel
theorem dX7_parts_85 : decode cX7_parts 85 = .ok (.aload_n 0, 1) := by decide +kernel
theorem dX7_parts_86 : decode cX7_parts 86 = .ok (.getfield 68, 3) := by decide +kernel
theorem dX7_parts_89 : decode cX7_parts 89 = .ok (.iload_n 2, 1) := by decide +kernel
theorem dX7_parts_90 : decode cX7_parts 90 = .ok (.iload 5, 2) := by decide +kernel
theorem dX7_parts_92 : decode cX7_parts 92 = .ok (.isub, 1) := by decide +kernel
theorem dX7_parts_93 : decode cX7_parts 93 = .ok (.iaload, 1) := by decide +kernel
theorem dX7_parts_94 : decode cX7_parts 94 = .ok (.aload_n 0, 1) := by decide +kernel
theorem dX7_parts_95 : decode cX7_parts 95 = .ok (.getfield 68, 3) := by decide +kernel
theorem dX7_parts_98 : decode cX7_parts 98 = .ok (.iload_n 2, 1) := by decide +kernel
theorem dX7_parts_99 : decode cX7_parts 99 = .ok (.iaload, 1) := by decide +kernel
theorem dX7_parts_100 : decode cX7_parts 100 = .ok (.iconst 1, 1) := by decide +kernel
theorem dX7_parts_101 : decode cX7_parts 101 = .ok (.isub, 1) := by decide +kernel
theorem dX7_parts_102 : decode cX7_parts 102 = .ok (.if_icmp .ne 8, 3) := by decide +kernel
theorem dX7_parts_105 : decode cX7_parts 105 = .ok (.iload 5, 2) := by decide +kernel
theorem dX7_parts_107 : decode cX7_parts 107 = .ok (.goto 5, 3) := by decide +kernel
theorem dX7_parts_110 : decode cX7_parts 110 = .ok (.iload 4, 2) := by decide +kernel
theorem dX7_parts_112 : decode cX7_parts 112 = .ok (.istore 4, 2) := by decide +kernel
theorem dX7_parts_114 : decode cX7_parts 114 = .ok (.iinc 5 1, 3) := by decide +kernel
theorem dX7_parts_117 : decode cX7_parts 117 = .ok (.goto (-48), 3) := by decide +kernel
theorem dX7_parts_120 : decode cX7_parts 120 = .ok (.iload 4, 2) := by decide +kernel
theorem dX7_parts_122 : decode cX7_parts 122 = .ok (.ireturn, 1) := by decide +kernel
theorem dX7_books_0 : decode cX7_books 0 = .ok (.aload_n 0, 1) := by decide +kernel
theorem dX7_books_1 : decode cX7_books 1 = .ok (.iconst 0, 1) := by decide +kernel
theorem dX7_books_2 : decode cX7_books 2 = .ok (.putfield 75, 3) := by decide +kernel
theorem dX7_books_5 : decode cX7_books 5 = .ok (.aload_n 0, 1) := by decide +kernel
theorem dX7_books_6 : decode cX7_books 6 = .ok (.iload_n 1, 1) := by decide +kernel
theorem dX7_books_7 : decode cX7_books 7 = .ok (.invokevirtual 159, 3) := by decide +kernel
theorem dX7_books_10 : decode cX7_books 10 = .ok (.ifCond .eq 22, 3) := by decide +kernel
theorem dX7_books_13 : decode cX7_books 13 = .ok (.iload_n 2, 1) := by decide +kernel
theorem dX7_books_14 : decode cX7_books 14 = .ok (.iconst 0, 1) := by decide +kernel
theorem dX7_books_15 : decode cX7_books 15 = .ok (.bipush 60, 2) := by decide +kernel
theorem dX7_books_17 : decode cX7_books 17 = .ok (.invokestatic 78, 3) := by decide +kernel
theorem dX7_books_20 : decode cX7_books 20 = .ok (.ifCond .eq 12, 3) := by decide +kernel
theorem dX7_books_23 : decode cX7_books 23 = .ok (.iload_n 3, 1) := by decide +kernel
theorem dX7_books_24 : decode cX7_books 24 = .ok (.iconst 0, 1) := by decide +kernel
theorem dX7_books_25 : decode cX7_books 25 = .ok (.iconst 3, 1) := by decide +kernel
theorem dX7_books_26 : decode cX7_books 26 = .ok (.invokestatic 78, 3) := by decide +kernel
theorem dX7_books_29 : decode cX7_books 29 = .ok (.ifCond .ne 5, 3) := by decide +kernel
theorem dX7_books_32 : decode cX7_books 32 = .ok (.iconst (-1), 1) := by decide +kernel
theorem dX7_books_33 : decode cX7_books 33 = .ok (.ireturn, 1) := by decide +kernel
theorem dX7_books_34 : decode cX7_books 34 = .ok (.aload_n 0, 1) := by decide +kernel
theorem dX7_books_35 : decode cX7_books 35 = .ok (.getfield 156, 3) := by decide +kernel
theorem dX7_books_38 : decode cX7_books 38 = .ok (.bipush 6, 2) := by decide +kernel
theorem dX7_books_40 : decode cX7_books 40 = .ok (.if_icmp .ne 6, 3) := by decide +kernel
theorem dX7_books_43 : decode cX7_books 43 = .ok (.bipush (-3), 2) := by decide +kernel
theorem dX7_books_45 : decode cX7_books 45 = .ok (.ireturn, 1) := by decide +kernel
theorem dX7_books_46 : decode cX7_books 46 = .ok (.aload_n 0, 1) := by decide +kernel
theorem dX7_books_47 : decode cX7_books 47 = .ok (.getfield 50, 3) := by decide +kernel
theorem dX7_books_50 : decode cX7_books 50 = .ok (.aload_n 0, 1) := by decide +kernel
theorem dX7_books_51 : decode cX7_books 51 = .ok (.getfield 156, 3) := by decide +kernel
theorem dX7_books_54 : decode cX7_books 54 = .ok (.iload_n 1, 1) := by decide +kernel
theorem dX7_books_55 : decode cX7_books 55 = .ok (.iastore, 1) := by decide +kernel
theorem dX7_books_56 : decode cX7_books 56 = .ok (.aload_n 0, 1) := by decide +kernel
theorem dX7_books_57 : decode cX7_books 57 = .ok (.getfield 53, 3) := by decide +kernel
theorem dX7_books_60 : decode cX7_books 60 = .ok (.aload_n 0, 1) := by decide +kernel
theorem dX7_books_61 : decode cX7_books 61 = .ok (.getfield 156, 3) := by decide +kernel
theorem dX7_books_64 : decode cX7_books 64 = .ok (.iload_n 2, 1) := by decide +kernel
theorem dX7_books_65 : decode cX7_books 65 = .ok (.iastore, 1) := by decide +kernel
theorem dX7_books_66 : decode cX7_books 66 = .ok (.aload_n 0, 1) := by decide +kernel
theorem dX7_books_67 : decode cX7_books 67 = .ok (.getfield 56, 3) := by decide +kernel
theorem dX7_books_70 : decode cX7_books 70 = .ok (.aload_n 0, 1) := by decide +kernel
theorem dX7_books_71 : decode cX7_books 71 = .ok (.getfield 156, 3) := by decide +kernel
theorem dX7_books_74 : decode cX7_books 74 = .ok (.iload_n 3, 1) := by decide +kernel
theorem dX7_books_75 : decode cX7_books 75 = .ok (.iastore, 1) := by decide +kernel
theorem dX7_books_76 : decode cX7_books 76 = .ok (.aload_n 0, 1) := by decide +kernel
theorem dX7_books_77 : decode cX7_books 77 = .ok (.dup, 1) := by decide +kernel
theorem dX7_books_78 : decode cX7_books 78 = .ok (.getfield 156, 3) := by decide +kernel
theorem dX7_books_81 : decode cX7_books 81 = .ok (.iconst 1, 1) := by decide +kernel
theorem dX7_books_82 : decode cX7_books 82 = .ok (.iadd, 1) := by decide +kernel
theorem dX7_books_83 : decode cX7_books 83 = .ok (.putfield 156, 3) := by decide +kernel
theorem dX7_books_86 : decode cX7_books 86 = .ok (.aload_n 0, 1) := by decide +kernel
theorem dX7_books_87 : decode cX7_books 87 = .ok (.getfield 156, 3) := by decide +kernel
theorem dX7_books_90 : decode cX7_books 90 = .ok (.ireturn, 1) := by decide +kernel
theorem dX7_burn_0 : decode cX7_burn 0 = .ok (.aload_n 0, 1) := by decide +kernel
theorem dX7_burn_1 : decode cX7_burn 1 = .ok (.iconst 0, 1) := by decide +kernel
theorem dX7_burn_2 : decode cX7_burn 2 = .ok (.putfield 75, 3) := by decide +kernel
theorem dX7_burn_5 : decode cX7_burn 5 = .ok (.aload_n 0, 1) := by decide +kernel
theorem dX7_burn_6 : decode cX7_burn 6 = .ok (.getfield 156, 3) := by decide +kernel
theorem dX7_burn_9 : decode cX7_burn 9 = .ok (.istore_n 1, 1) := by decide +kernel
theorem dX7_burn_10 : decode cX7_burn 10 = .ok (.aload_n 0, 1) := by decide +kernel
theorem dX7_burn_11 : decode cX7_burn 11 = .ok (.iconst 0, 1) := by decide +kernel
theorem dX7_burn_12 : decode cX7_burn 12 = .ok (.putfield 156, 3) := by decide +kernel
theorem dX7_burn_15 : decode cX7_burn 15 = .ok (.iload_n 1, 1) := by decide +kernel
theorem dX7_burn_16 : decode cX7_burn 16 = .ok (.ireturn, 1) := by decide +kernel
theorem dX7_endBehind_0 : decode cX7_endBehind 0 = .ok (.iload_n 2, 1) := by decide +kernel
theorem dX7_endBehind_1 : decode cX7_endBehind 1 = .ok (.istore 5, 2) := by decide +kernel
theorem dX7_endBehind_3 : decode cX7_endBehind 3 = .ok (.iconst 0, 1) := by decide +kernel
theorem dX7_endBehind_4 : decode cX7_endBehind 4 = .ok (.istore 6, 2) := by decide +kernel
theorem dX7_endBehind_6 : decode cX7_endBehind 6 = .ok (.iload 6, 2) := by decide +kernel
theorem dX7_endBehind_8 : decode cX7_endBehind 8 = .ok (.iload 4, 2) := by decide +kernel
theorem dX7_endBehind_10 : decode cX7_endBehind 10 = .ok (.if_icmp .ge 24, 3) := by decide +kernel
theorem dX7_endBehind_13 : decode cX7_endBehind 13 = .ok (.iload 5, 2) := by decide +kernel
theorem dX7_endBehind_15 : decode cX7_endBehind 15 = .ok (.iload_n 3, 1) := by decide +kernel
theorem dX7_endBehind_16 : decode cX7_endBehind 16 = .ok (.iadd, 1) := by decide +kernel
theorem dX7_endBehind_17 : decode cX7_endBehind 17 = .ok (.aload_n 0, 1) := by decide +kernel
theorem dX7_endBehind_18 : decode cX7_endBehind 18 = .ok (.getfield 13, 3) := by decide +kernel
theorem dX7_endBehind_21 : decode cX7_endBehind 21 = .ok (.iload_n 1, 1) := by decide +kernel
theorem dX7_endBehind_22 : decode cX7_endBehind 22 = .ok (.iaload, 1) := by decide +kernel
theorem dX7_endBehind_23 : decode cX7_endBehind 23 = .ok (.invokestatic 180, 3) := by decide +kernel
theorem dX7_endBehind_26 : decode cX7_endBehind 26 = .ok (.istore 5, 2) := by decide +kernel
theorem dX7_endBehind_28 : decode cX7_endBehind 28 = .ok (.iinc 6 1, 3) := by decide +kernel
theorem dX7_endBehind_31 : decode cX7_endBehind 31 = .ok (.goto (-25), 3) := by decide +kernel
theorem dX7_endBehind_34 : decode cX7_endBehind 34 = .ok (.aload_n 0, 1) := by decide +kernel
theorem dX7_endBehind_35 : decode cX7_endBehind 35 = .ok (.aload_n 0, 1) := by decide +kernel
theorem dX7_endBehind_36 : decode cX7_endBehind 36 = .ok (.getfield 28, 3) := by decide +kernel
theorem dX7_endBehind_39 : decode cX7_endBehind 39 = .ok (.iload_n 1, 1) := by decide +kernel
theorem dX7_endBehind_40 : decode cX7_endBehind 40 = .ok (.iload 5, 2) := by decide +kernel
theorem dX7_endBehind_42 : decode cX7_endBehind 42 = .ok (.invokevirtual 167, 3) := by decide +kernel
theorem dX7_endBehind_45 : decode cX7_endBehind 45 = .ok (.ireturn, 1) := by decide +kernel
theorem dX7_isAsBooked_0 : decode cX7_isAsBooked 0 = .ok (.iconst 1, 1) := by decide +kernel
theorem dX7_isAsBooked_1 : decode cX7_isAsBooked 1 = .ok (.istore 4, 2) := by decide +kernel
theorem dX7_isAsBooked_3 : decode cX7_isAsBooked 3 = .ok (.iconst 0, 1) := by decide +kernel
theorem dX7_isAsBooked_4 : decode cX7_isAsBooked 4 = .ok (.istore 5, 2) := by decide +kernel
theorem dX7_isAsBooked_6 : decode cX7_isAsBooked 6 = .ok (.iload 5, 2) := by decide +kernel
theorem dX7_isAsBooked_8 : decode cX7_isAsBooked 8 = .ok (.aload_n 0, 1) := by decide +kernel
theorem dX7_isAsBooked_9 : decode cX7_isAsBooked 9 = .ok (.getfield 156, 3) := by decide +kernel
theorem dX7_isAsBooked_12 : decode cX7_isAsBooked 12 = .ok (.if_icmp .ge 56, 3) := by decide +kernel
theorem dX7_isAsBooked_15 : decode cX7_isAsBooked 15 = .ok (.iload 4, 2) := by decide +kernel
theorem dX7_isAsBooked_17 : decode cX7_isAsBooked 17 = .ok (.ifCond .eq 51, 3) := by decide +kernel
theorem dX7_isAsBooked_20 : decode cX7_isAsBooked 20 = .ok (.aload_n 0, 1) := by decide +kernel
theorem dX7_isAsBooked_21 : decode cX7_isAsBooked 21 = .ok (.getfield 50, 3) := by decide +kernel
theorem dX7_isAsBooked_24 : decode cX7_isAsBooked 24 = .ok (.iload 5, 2) := by decide +kernel
theorem dX7_isAsBooked_26 : decode cX7_isAsBooked 26 = .ok (.iaload, 1) := by decide +kernel
theorem dX7_isAsBooked_27 : decode cX7_isAsBooked 27 = .ok (.iload_n 1, 1) := by decide +kernel
theorem dX7_isAsBooked_28 : decode cX7_isAsBooked 28 = .ok (.if_icmp .ne 27, 3) := by decide +kernel
theorem dX7_isAsBooked_31 : decode cX7_isAsBooked 31 = .ok (.aload_n 0, 1) := by decide +kernel
theorem dX7_isAsBooked_32 : decode cX7_isAsBooked 32 = .ok (.iload_n 1, 1) := by decide +kernel
theorem dX7_isAsBooked_33 : decode cX7_isAsBooked 33 = .ok (.iload_n 2, 1) := by decide +kernel
theorem dX7_isAsBooked_34 : decode cX7_isAsBooked 34 = .ok (.iload_n 3, 1) := by decide +kernel
theorem dX7_isAsBooked_35 : decode cX7_isAsBooked 35 = .ok (.aload_n 0, 1) := by decide +kernel
theorem dX7_isAsBooked_36 : decode cX7_isAsBooked 36 = .ok (.getfield 53, 3) := by decide +kernel
theorem dX7_isAsBooked_39 : decode cX7_isAsBooked 39 = .ok (.iload 5, 2) := by decide +kernel
theorem dX7_isAsBooked_41 : decode cX7_isAsBooked 41 = .ok (.iaload, 1) := by decide +kernel
theorem dX7_isAsBooked_42 : decode cX7_isAsBooked 42 = .ok (.invokevirtual 242, 3) := by decide +kernel
theorem dX7_isAsBooked_45 : decode cX7_isAsBooked 45 = .ok (.aload_n 0, 1) := by decide +kernel
theorem dX7_isAsBooked_46 : decode cX7_isAsBooked 46 = .ok (.getfield 56, 3) := by decide +kernel
theorem dX7_isAsBooked_49 : decode cX7_isAsBooked 49 = .ok (.iload 5, 2) := by decide +kernel
theorem dX7_isAsBooked_51 : decode cX7_isAsBooked 51 = .ok (.iaload, 1) := by decide +kernel
theorem dX7_isAsBooked_52 : decode cX7_isAsBooked 52 = .ok (.if_icmp .ne 7, 3) := by decide +kernel
theorem dX7_isAsBooked_55 : decode cX7_isAsBooked 55 = .ok (.iconst 1, 1) := by decide +kernel
theorem dX7_isAsBooked_56 : decode cX7_isAsBooked 56 = .ok (.goto 4, 3) := by decide +kernel
theorem dX7_isAsBooked_59 : decode cX7_isAsBooked 59 = .ok (.iconst 0, 1) := by decide +kernel
theorem dX7_isAsBooked_60 : decode cX7_isAsBooked 60 = .ok (.istore 4, 2) := by decide +kernel
theorem dX7_isAsBooked_62 : decode cX7_isAsBooked 62 = .ok (.iinc 5 1, 3) := by decide +kernel
theorem dX7_isAsBooked_65 : decode cX7_isAsBooked 65 = .ok (.goto (-59), 3) := by decide +kernel
theorem dX7_isAsBooked_68 : decode cX7_isAsBooked 68 = .ok (.iload 4, 2) := by decide +kernel
theorem dX7_isAsBooked_70 : decode cX7_isAsBooked 70 = .ok (.ireturn, 1) := by decide +kernel
theorem dX7_fits_0 : decode cX7_fits 0 = .ok (.aload_n 0, 1) := by decide +kernel
theorem dX7_fits_1 : decode cX7_fits 1 = .ok (.iconst 0, 1) := by decide +kernel
theorem dX7_fits_2 : decode cX7_fits 2 = .ok (.putfield 75, 3) := by decide +kernel
theorem dX7_fits_5 : decode cX7_fits 5 = .ok (.aload_n 0, 1) := by decide +kernel
theorem dX7_fits_6 : decode cX7_fits 6 = .ok (.iload_n 1, 1) := by decide +kernel
theorem dX7_fits_7 : decode cX7_fits 7 = .ok (.invokevirtual 159, 3) := by decide +kernel
theorem dX7_fits_10 : decode cX7_fits 10 = .ok (.ifCond .ne 5, 3) := by decide +kernel
theorem dX7_fits_13 : decode cX7_fits 13 = .ok (.iconst (-1), 1) := by decide +kernel
theorem dX7_fits_14 : decode cX7_fits 14 = .ok (.ireturn, 1) := by decide +kernel
theorem dX7_fits_15 : decode cX7_fits 15 = .ok (.iconst 0, 1) := by decide +kernel
theorem dX7_fits_16 : decode cX7_fits 16 = .ok (.istore_n 2, 1) := by decide +kernel
theorem dX7_fits_17 : decode cX7_fits 17 = .ok (.iconst 0, 1) := by decide +kernel
theorem dX7_fits_18 : decode cX7_fits 18 = .ok (.istore_n 3, 1) := by decide +kernel
theorem dX7_fits_19 : decode cX7_fits 19 = .ok (.iload_n 3, 1) := by decide +kernel
theorem dX7_fits_20 : decode cX7_fits 20 = .ok (.aload_n 0, 1) := by decide +kernel
theorem dX7_fits_21 : decode cX7_fits 21 = .ok (.getfield 13, 3) := by decide +kernel
theorem dX7_fits_24 : decode cX7_fits 24 = .ok (.iload_n 1, 1) := by decide +kernel
theorem dX7_fits_25 : decode cX7_fits 25 = .ok (.iaload, 1) := by decide +kernel
theorem dX7_fits_26 : decode cX7_fits 26 = .ok (.if_icmp .gt 44, 3) := by decide +kernel
theorem dX7_fits_29 : decode cX7_fits 29 = .ok (.bipush (-3), 2) := by decide +kernel
theorem dX7_fits_31 : decode cX7_fits 31 = .ok (.istore 4, 2) := by decide +kernel
theorem dX7_fits_33 : decode cX7_fits 33 = .ok (.iload 4, 2) := by decide +kernel
theorem dX7_fits_35 : decode cX7_fits 35 = .ok (.iconst 4, 1) := by decide +kernel
theorem dX7_fits_36 : decode cX7_fits 36 = .ok (.if_icmp .ge 28, 3) := by decide +kernel
theorem dX7_fits_39 : decode cX7_fits 39 = .ok (.iload_n 2, 1) := by decide +kernel
theorem dX7_fits_40 : decode cX7_fits 40 = .ok (.aload_n 0, 1) := by decide +kernel
theorem dX7_fits_41 : decode cX7_fits 41 = .ok (.iload_n 1, 1) := by decide +kernel
theorem dX7_fits_42 : decode cX7_fits 42 = .ok (.iload_n 3, 1) := by decide +kernel
theorem dX7_fits_43 : decode cX7_fits 43 = .ok (.iload 4, 2) := by decide +kernel
theorem dX7_fits_45 : decode cX7_fits 45 = .ok (.invokevirtual 245, 3) := by decide +kernel
theorem dX7_fits_48 : decode cX7_fits 48 = .ok (.ifCond .eq 7, 3) := by decide +kernel
theorem dX7_fits_51 : decode cX7_fits 51 = .ok (.iconst 1, 1) := by decide +kernel
theorem dX7_fits_52 : decode cX7_fits 52 = .ok (.goto 4, 3) := by decide +kernel
theorem dX7_fits_55 : decode cX7_fits 55 = .ok (.iconst 0, 1) := by decide +kernel
theorem dX7_fits_56 : decode cX7_fits 56 = .ok (.iadd, 1) := by decide +kernel
theorem dX7_fits_57 : decode cX7_fits 57 = .ok (.istore_n 2, 1) := by decide +kernel
theorem dX7_fits_58 : decode cX7_fits 58 = .ok (.iinc 4 1, 3) := by decide +kernel
theorem dX7_fits_61 : decode cX7_fits 61 = .ok (.goto (-28), 3) := by decide +kernel
theorem dX7_fits_64 : decode cX7_fits 64 = .ok (.iinc 3 1, 3) := by decide +kernel
theorem dX7_fits_67 : decode cX7_fits 67 = .ok (.goto (-48), 3) := by decide +kernel
theorem dX7_fits_70 : decode cX7_fits 70 = .ok (.iload_n 2, 1) := by decide +kernel
theorem dX7_fits_71 : decode cX7_fits 71 = .ok (.ireturn, 1) := by decide +kernel
theorem dX7_sure_0 : decode cX7_sure 0 = .ok (.aload_n 0, 1) := by decide +kernel
theorem dX7_sure_1 : decode cX7_sure 1 = .ok (.iconst 0, 1) := by decide +kernel
theorem dX7_sure_2 : decode cX7_sure 2 = .ok (.putfield 75, 3) := by decide +kernel
theorem dX7_sure_5 : decode cX7_sure 5 = .ok (.aload_n 0, 1) := by decide +kernel
theorem dX7_sure_6 : decode cX7_sure 6 = .ok (.iload_n 1, 1) := by decide +kernel
theorem dX7_sure_7 : decode cX7_sure 7 = .ok (.invokevirtual 159, 3) := by decide +kernel
theorem dX7_sure_10 : decode cX7_sure 10 = .ok (.ifCond .eq 13, 3) := by decide +kernel
theorem dX7_sure_13 : decode cX7_sure 13 = .ok (.iload_n 2, 1) := by decide +kernel
theorem dX7_sure_14 : decode cX7_sure 14 = .ok (.iconst 0, 1) := by decide +kernel
theorem dX7_sure_15 : decode cX7_sure 15 = .ok (.bipush 60, 2) := by decide +kernel
theorem dX7_sure_17 : decode cX7_sure 17 = .ok (.invokestatic 78, 3) := by decide +kernel
theorem dX7_sure_20 : decode cX7_sure 20 = .ok (.ifCond .ne 5, 3) := by decide +kernel
theorem dX7_sure_23 : decode cX7_sure 23 = .ok (.iconst (-1), 1) := by decide +kernel
theorem dX7_sure_24 : decode cX7_sure 24 = .ok (.ireturn, 1) := by decide +kernel
theorem dX7_sure_25 : decode cX7_sure 25 = .ok (.bipush (-9), 2) := by decide +kernel
theorem dX7_sure_27 : decode cX7_sure 27 = .ok (.istore_n 3, 1) := by decide +kernel
theorem dX7_sure_28 : decode cX7_sure 28 = .ok (.iconst 0, 1) := by decide +kernel
theorem dX7_sure_29 : decode cX7_sure 29 = .ok (.istore 4, 2) := by decide +kernel
theorem dX7_sure_31 : decode cX7_sure 31 = .ok (.iload 4, 2) := by decide +kernel
theorem dX7_sure_33 : decode cX7_sure 33 = .ok (.aload_n 0, 1) := by decide +kernel
theorem dX7_sure_34 : decode cX7_sure 34 = .ok (.getfield 13, 3) := by decide +kernel
theorem dX7_sure_37 : decode cX7_sure 37 = .ok (.iload_n 1, 1) := by decide +kernel
theorem dX7_sure_38 : decode cX7_sure 38 = .ok (.iaload, 1) := by decide +kernel
theorem dX7_sure_39 : decode cX7_sure 39 = .ok (.if_icmp .gt 69, 3) := by decide +kernel
theorem dX7_sure_42 : decode cX7_sure 42 = .ok (.bipush (-3), 2) := by decide +kernel
theorem dX7_sure_44 : decode cX7_sure 44 = .ok (.istore 5, 2) := by decide +kernel
theorem dX7_sure_46 : decode cX7_sure 46 = .ok (.iload 5, 2) := by decide +kernel
theorem dX7_sure_48 : decode cX7_sure 48 = .ok (.iconst 4, 1) := by decide +kernel
theorem dX7_sure_49 : decode cX7_sure 49 = .ok (.if_icmp .ge 53, 3) := by decide +kernel
theorem dX7_sure_52 : decode cX7_sure 52 = .ok (.aload_n 0, 1) := by decide +kernel
theorem dX7_sure_53 : decode cX7_sure 53 = .ok (.iload_n 1, 1) := by decide +kernel
theorem dX7_sure_54 : decode cX7_sure 54 = .ok (.iload 4, 2) := by decide +kernel
theorem dX7_sure_56 : decode cX7_sure 56 = .ok (.iload 5, 2) := by decide +kernel
theorem dX7_sure_58 : decode cX7_sure 58 = .ok (.invokevirtual 245, 3) := by decide +kernel
theorem dX7_sure_61 : decode cX7_sure 61 = .ok (.ifCond .eq 35, 3) := by decide +kernel
theorem dX7_sure_64 : decode cX7_sure 64 = .ok (.aload_n 0, 1) := by decide +kernel
theorem dX7_sure_65 : decode cX7_sure 65 = .ok (.iload_n 1, 1) := by decide +kernel
theorem dX7_sure_66 : decode cX7_sure 66 = .ok (.iload 4, 2) := by decide +kernel
theorem dX7_sure_68 : decode cX7_sure 68 = .ok (.iload 5, 2) := by decide +kernel
theorem dX7_sure_70 : decode cX7_sure 70 = .ok (.iload_n 2, 1) := by decide +kernel
theorem dX7_sure_71 : decode cX7_sure 71 = .ok (.invokevirtual 242, 3) := by decide +kernel
theorem dX7_sure_74 : decode cX7_sure 74 = .ok (.istore 6, 2) := by decide +kernel
theorem dX7_sure_76 : decode cX7_sure 76 = .ok (.iload_n 3, 1) := by decide +kernel
theorem dX7_sure_77 : decode cX7_sure 77 = .ok (.bipush (-9), 2) := by decide +kernel
theorem dX7_sure_79 : decode cX7_sure 79 = .ok (.if_icmp .eq 9, 3) := by decide +kernel
theorem dX7_sure_82 : decode cX7_sure 82 = .ok (.iload_n 3, 1) := by decide +kernel
theorem dX7_sure_83 : decode cX7_sure 83 = .ok (.iload 6, 2) := by decide +kernel
theorem dX7_sure_85 : decode cX7_sure 85 = .ok (.if_icmp .ne 8, 3) := by decide +kernel
theorem dX7_sure_88 : decode cX7_sure 88 = .ok (.iload 6, 2) := by decide +kernel
theorem dX7_sure_90 : decode cX7_sure 90 = .ok (.goto 5, 3) := by decide +kernel
theorem dX7_sure_93 : decode cX7_sure 93 = .ok (.bipush (-5), 2) := by decide +kernel
theorem dX7_sure_95 : decode cX7_sure 95 = .ok (.istore_n 3, 1) := by decide +kernel
theorem dX7_sure_96 : decode cX7_sure 96 = .ok (.iinc 5 1, 3) := by decide +kernel
theorem dX7_sure_99 : decode cX7_sure 99 = .ok (.goto (-53), 3) := by decide +kernel
theorem dX7_sure_102 : decode cX7_sure 102 = .ok (.iinc 4 1, 3) := by decide +kernel
theorem dX7_sure_105 : decode cX7_sure 105 = .ok (.goto (-74), 3) := by decide +kernel
theorem dX7_sure_108 : decode cX7_sure 108 = .ok (.iload_n 3, 1) := by decide +kernel
theorem dX7_sure_109 : decode cX7_sure 109 = .ok (.ireturn, 1) := by decide +kernel
theorem dX7_isClash_0 : decode cX7_isClash 0 = .ok (.iconst 0, 1) := by decide +kernel
theorem dX7_isClash_1 : decode cX7_isClash 1 = .ok (.istore_n 3, 1) := by decide +kernel
theorem dX7_isClash_2 : decode cX7_isClash 2 = .ok (.iconst 0, 1) := by decide +kernel
theorem dX7_isClash_3 : decode cX7_isClash 3 = .ok (.istore 4, 2) := by decide +kernel
theorem dX7_isClash_5 : decode cX7_isClash 5 = .ok (.iload 4, 2) := by decide +kernel
theorem dX7_isClash_7 : decode cX7_isClash 7 = .ok (.aload_n 0, 1) := by decide +kernel
theorem dX7_isClash_8 : decode cX7_isClash 8 = .ok (.getfield 13, 3) := by decide +kernel
theorem dX7_isClash_11 : decode cX7_isClash 11 = .ok (.iload_n 1, 1) := by decide +kernel
theorem dX7_isClash_12 : decode cX7_isClash 12 = .ok (.iaload, 1) := by decide +kernel
theorem dX7_isClash_13 : decode cX7_isClash 13 = .ok (.if_icmp .gt 82, 3) := by decide +kernel
theorem dX7_isClash_16 : decode cX7_isClash 16 = .ok (.aload_n 0, 1) := by decide +kernel
theorem dX7_isClash_17 : decode cX7_isClash 17 = .ok (.getfield 13, 3) := by decide +kernel
theorem dX7_isClash_20 : decode cX7_isClash 20 = .ok (.iload_n 1, 1) := by decide +kernel
theorem dX7_isClash_21 : decode cX7_isClash 21 = .ok (.iaload, 1) := by decide +kernel
theorem dX7_isClash_22 : decode cX7_isClash 22 = .ok (.aload_n 0, 1) := by decide +kernel
theorem dX7_isClash_23 : decode cX7_isClash 23 = .ok (.getfield 13, 3) := by decide +kernel
theorem dX7_isClash_26 : decode cX7_isClash 26 = .ok (.iload_n 2, 1) := by decide +kernel
theorem dX7_isClash_27 : decode cX7_isClash 27 = .ok (.iaload, 1) := by decide +kernel
theorem dX7_isClash_28 : decode cX7_isClash 28 = .ok (.if_icmp .ne 67, 3) := by decide +kernel
theorem dX7_isClash_31 : decode cX7_isClash 31 = .ok (.aload_n 0, 1) := by decide +kernel
theorem dX7_isClash_32 : decode cX7_isClash 32 = .ok (.aload_n 0, 1) := by decide +kernel
theorem dX7_isClash_33 : decode cX7_isClash 33 = .ok (.getfield 28, 3) := by decide +kernel
theorem dX7_isClash_36 : decode cX7_isClash 36 = .ok (.iload_n 1, 1) := by decide +kernel
theorem dX7_isClash_37 : decode cX7_isClash 37 = .ok (.iload 4, 2) := by decide +kernel
theorem dX7_isClash_39 : decode cX7_isClash 39 = .ok (.invokevirtual 167, 3) := by decide +kernel
theorem dX7_isClash_42 : decode cX7_isClash 42 = .ok (.istore 5, 2) := by decide +kernel
theorem dX7_isClash_44 : decode cX7_isClash 44 = .ok (.aload_n 0, 1) := by decide +kernel
theorem dX7_isClash_45 : decode cX7_isClash 45 = .ok (.aload_n 0, 1) := by decide +kernel
theorem dX7_isClash_46 : decode cX7_isClash 46 = .ok (.getfield 28, 3) := by decide +kernel
theorem dX7_isClash_49 : decode cX7_isClash 49 = .ok (.iload_n 2, 1) := by decide +kernel
theorem dX7_isClash_50 : decode cX7_isClash 50 = .ok (.iload 4, 2) := by decide +kernel
theorem dX7_isClash_52 : decode cX7_isClash 52 = .ok (.invokevirtual 167, 3) := by decide +kernel
theorem dX7_isClash_55 : decode cX7_isClash 55 = .ok (.istore 6, 2) := by decide +kernel
theorem dX7_isClash_57 : decode cX7_isClash 57 = .ok (.iload_n 3, 1) := by decide +kernel
theorem dX7_isClash_58 : decode cX7_isClash 58 = .ok (.ifCond .ne 25, 3) := by decide +kernel
theorem dX7_isClash_61 : decode cX7_isClash 61 = .ok (.iload 5, 2) := by decide +kernel
theorem dX7_isClash_63 : decode cX7_isClash 63 = .ok (.ifCond .ne 9, 3) := by decide +kernel
theorem dX7_isClash_66 : decode cX7_isClash 66 = .ok (.iload 6, 2) := by decide +kernel
theorem dX7_isClash_68 : decode cX7_isClash 68 = .ok (.iconst 1, 1) := by decide +kernel
theorem dX7_isClash_69 : decode cX7_isClash 69 = .ok (.if_icmp .eq 14, 3) := by decide +kernel
theorem dX7_isClash_72 : decode cX7_isClash 72 = .ok (.iload 5, 2) := by decide +kernel
theorem dX7_isClash_74 : decode cX7_isClash 74 = .ok (.iconst 1, 1) := by decide +kernel
theorem dX7_isClash_75 : decode cX7_isClash 75 = .ok (.if_icmp .ne 12, 3) := by decide +kernel
theorem dX7_isClash_78 : decode cX7_isClash 78 = .ok (.iload 6, 2) := by decide +kernel
theorem dX7_isClash_80 : decode cX7_isClash 80 = .ok (.ifCond .ne 7, 3) := by decide +kernel
theorem dX7_isClash_83 : decode cX7_isClash 83 = .ok (.iconst 1, 1) := by decide +kernel
theorem dX7_isClash_84 : decode cX7_isClash 84 = .ok (.goto 4, 3) := by decide +kernel
theorem dX7_isClash_87 : decode cX7_isClash 87 = .ok (.iconst 0, 1) := by decide +kernel
theorem dX7_isClash_88 : decode cX7_isClash 88 = .ok (.istore_n 3, 1) := by decide +kernel
theorem dX7_isClash_89 : decode cX7_isClash 89 = .ok (.iinc 4 1, 3) := by decide +kernel
theorem dX7_isClash_92 : decode cX7_isClash 92 = .ok (.goto (-87), 3) := by decide +kernel
theorem dX7_isClash_95 : decode cX7_isClash 95 = .ok (.iload_n 3, 1) := by decide +kernel
theorem dX7_isClash_96 : decode cX7_isClash 96 = .ok (.ireturn, 1) := by decide +kernel
theorem dX7_clash_0 : decode cX7_clash 0 = .ok (.aload_n 0, 1) := by decide +kernel
theorem dX7_clash_1 : decode cX7_clash 1 = .ok (.iconst 0, 1) := by decide +kernel
theorem dX7_clash_2 : decode cX7_clash 2 = .ok (.putfield 75, 3) := by decide +kernel
theorem dX7_clash_5 : decode cX7_clash 5 = .ok (.iconst 0, 1) := by decide +kernel
theorem dX7_clash_6 : decode cX7_clash 6 = .ok (.istore_n 1, 1) := by decide +kernel
theorem dX7_clash_7 : decode cX7_clash 7 = .ok (.iload_n 1, 1) := by decide +kernel
theorem dX7_clash_8 : decode cX7_clash 8 = .ok (.aload_n 0, 1) := by decide +kernel
theorem dX7_clash_9 : decode cX7_clash 9 = .ok (.getfield 141, 3) := by decide +kernel
theorem dX7_clash_12 : decode cX7_clash 12 = .ok (.if_icmp .ge 43, 3) := by decide +kernel
theorem dX7_clash_15 : decode cX7_clash 15 = .ok (.iload_n 1, 1) := by decide +kernel
theorem dX7_clash_16 : decode cX7_clash 16 = .ok (.iconst 1, 1) := by decide +kernel
theorem dX7_clash_17 : decode cX7_clash 17 = .ok (.iadd, 1) := by decide +kernel
theorem dX7_clash_18 : decode cX7_clash 18 = .ok (.istore_n 2, 1) := by decide +kernel
theorem dX7_clash_19 : decode cX7_clash 19 = .ok (.iload_n 2, 1) := by decide +kernel
theorem dX7_clash_20 : decode cX7_clash 20 = .ok (.aload_n 0, 1) := by decide +kernel
theorem dX7_clash_21 : decode cX7_clash 21 = .ok (.getfield 141, 3) := by decide +kernel
theorem dX7_clash_24 : decode cX7_clash 24 = .ok (.if_icmp .ge 25, 3) := by decide +kernel
theorem dX7_clash_27 : decode cX7_clash 27 = .ok (.aload_n 0, 1) := by decide +kernel
theorem dX7_clash_28 : decode cX7_clash 28 = .ok (.iload_n 1, 1) := by decide +kernel
theorem dX7_clash_29 : decode cX7_clash 29 = .ok (.iload_n 2, 1) := by decide +kernel
theorem dX7_clash_30 : decode cX7_clash 30 = .ok (.invokevirtual 248, 3) := by decide +kernel
theorem dX7_clash_33 : decode cX7_clash 33 = .ok (.ifCond .eq 10, 3) := by decide +kernel
theorem dX7_clash_36 : decode cX7_clash 36 = .ok (.bipush 10, 2) := by decide +kernel
theorem dX7_clash_38 : decode cX7_clash 38 = .ok (.iload_n 1, 1) := by decide +kernel
theorem dX7_clash_39 : decode cX7_clash 39 = .ok (.imul, 1) := by decide +kernel
theorem dX7_clash_40 : decode cX7_clash 40 = .ok (.iload_n 2, 1) := by decide +kernel
theorem dX7_clash_41 : decode cX7_clash 41 = .ok (.iadd, 1) := by decide +kernel
theorem dX7_clash_42 : decode cX7_clash 42 = .ok (.ireturn, 1) := by decide +kernel
theorem dX7_clash_43 : decode cX7_clash 43 = .ok (.iinc 2 1, 3) := by decide +kernel
theorem dX7_clash_46 : decode cX7_clash 46 = .ok (.goto (-27), 3) := by decide +kernel
theorem dX7_clash_49 : decode cX7_clash 49 = .ok (.iinc 1 1, 3) := by decide +kernel
theorem dX7_clash_52 : decode cX7_clash 52 = .ok (.goto (-45), 3) := by decide +kernel
theorem dX7_clash_55 : decode cX7_clash 55 = .ok (.bipush (-9), 2) := by decide +kernel
theorem dX7_clash_57 : decode cX7_clash 57 = .ok (.ireturn, 1) := by decide +kernel
theorem dX7_rate_0 : decode cX7_rate 0 = .ok (.aload_n 0, 1) := by decide +kernel
theorem dX7_rate_1 : decode cX7_rate 1 = .ok (.iconst 0, 1) := by decide +kernel
theorem dX7_rate_2 : decode cX7_rate 2 = .ok (.putfield 75, 3) := by decide +kernel
theorem dX7_rate_5 : decode cX7_rate 5 = .ok (.iload_n 1, 1) := by decide +kernel
theorem dX7_rate_6 : decode cX7_rate 6 = .ok (.iconst 0, 1) := by decide +kernel
theorem dX7_rate_7 : decode cX7_rate 7 = .ok (.iconst 5, 1) := by decide +kernel
theorem dX7_rate_8 : decode cX7_rate 8 = .ok (.invokestatic 78, 3) := by decide +kernel
theorem dX7_rate_11 : decode cX7_rate 11 = .ok (.ifCond .eq 11, 3) := by decide +kernel
theorem dX7_rate_14 : decode cX7_rate 14 = .ok (.aload_n 0, 1) := by decide +kernel
theorem dX7_rate_15 : decode cX7_rate 15 = .ok (.iload_n 2, 1) := by decide +kernel
theorem dX7_rate_16 : decode cX7_rate 16 = .ok (.invokevirtual 171, 3) := by decide +kernel
theorem dX7_rate_19 : decode cX7_rate 19 = .ok (.ifCond .ne 6, 3) := by decide +kernel
theorem dX7_rate_22 : decode cX7_rate 22 = .ok (.ldc 214, 2) := by decide +kernel
theorem dX7_rate_24 : decode cX7_rate 24 = .ok (.ireturn, 1) := by decide +kernel
theorem dX7_rate_25 : decode cX7_rate 25 = .ok (.iconst 0, 1) := by decide +kernel
theorem dX7_rate_26 : decode cX7_rate 26 = .ok (.istore_n 3, 1) := by decide +kernel
theorem dX7_rate_27 : decode cX7_rate 27 = .ok (.iconst 0, 1) := by decide +kernel
theorem dX7_rate_28 : decode cX7_rate 28 = .ok (.istore 4, 2) := by decide +kernel
theorem dX7_rate_30 : decode cX7_rate 30 = .ok (.iload 4, 2) := by decide +kernel
theorem dX7_rate_32 : decode cX7_rate 32 = .ok (.aload_n 0, 1) := by decide +kernel
theorem dX7_rate_33 : decode cX7_rate 33 = .ok (.getfield 141, 3) := by decide +kernel
theorem dX7_rate_36 : decode cX7_rate 36 = .ok (.if_icmp .ge 26, 3) := by decide +kernel
theorem dX7_rate_39 : decode cX7_rate 39 = .ok (.iload_n 3, 1) := by decide +kernel
theorem dX7_rate_40 : decode cX7_rate 40 = .ok (.aload_n 0, 1) := by decide +kernel
theorem dX7_rate_41 : decode cX7_rate 41 = .ok (.getfield 28, 3) := by decide +kernel
theorem dX7_rate_44 : decode cX7_rate 44 = .ok (.bipush 8, 2) := by decide +kernel
theorem dX7_rate_46 : decode cX7_rate 46 = .ok (.iconst 4, 1) := by decide +kernel
theorem dX7_rate_47 : decode cX7_rate 47 = .ok (.iload_n 2, 1) := by decide +kernel
theorem dX7_rate_48 : decode cX7_rate 48 = .ok (.imul, 1) := by decide +kernel
theorem dX7_rate_49 : decode cX7_rate 49 = .ok (.iadd, 1) := by decide +kernel
theorem dX7_rate_50 : decode cX7_rate 50 = .ok (.iload 4, 2) := by decide +kernel
theorem dX7_rate_52 : decode cX7_rate 52 = .ok (.iadd, 1) := by decide +kernel
theorem dX7_rate_53 : decode cX7_rate 53 = .ok (.iaload, 1) := by decide +kernel
theorem dX7_rate_54 : decode cX7_rate 54 = .ok (.iadd, 1) := by decide +kernel
theorem dX7_rate_55 : decode cX7_rate 55 = .ok (.istore_n 3, 1) := by decide +kernel
theorem dX7_rate_56 : decode cX7_rate 56 = .ok (.iinc 4 1, 3) := by decide +kernel
theorem dX7_rate_59 : decode cX7_rate 59 = .ok (.goto (-29), 3) := by decide +kernel
theorem dX7_rate_62 : decode cX7_rate 62 = .ok (.iload_n 3, 1) := by decide +kernel
theorem dX7_rate_63 : decode cX7_rate 63 = .ok (.aload_n 0, 1) := by decide +kernel
theorem dX7_rate_64 : decode cX7_rate 64 = .ok (.iload_n 2, 1) := by decide +kernel
theorem dX7_rate_65 : decode cX7_rate 65 = .ok (.iconst 1, 1) := by decide +kernel
theorem dX7_rate_66 : decode cX7_rate 66 = .ok (.invokevirtual 204, 3) := by decide +kernel
theorem dX7_rate_69 : decode cX7_rate 69 = .ok (.iadd, 1) := by decide +kernel
theorem dX7_rate_70 : decode cX7_rate 70 = .ok (.istore 4, 2) := by decide +kernel
theorem dX7_rate_72 : decode cX7_rate 72 = .ok (.iload_n 3, 1) := by decide +kernel
theorem dX7_rate_73 : decode cX7_rate 73 = .ok (.aload_n 0, 1) := by decide +kernel
theorem dX7_rate_74 : decode cX7_rate 74 = .ok (.iload_n 2, 1) := by decide +kernel
theorem dX7_rate_75 : decode cX7_rate 75 = .ok (.iconst 2, 1) := by decide +kernel
theorem dX7_rate_76 : decode cX7_rate 76 = .ok (.invokevirtual 204, 3) := by decide +kernel
theorem dX7_rate_79 : decode cX7_rate 79 = .ok (.isub, 1) := by decide +kernel
theorem dX7_rate_80 : decode cX7_rate 80 = .ok (.istore 5, 2) := by decide +kernel
theorem dX7_rate_82 : decode cX7_rate 82 = .ok (.aload_n 0, 1) := by decide +kernel
theorem dX7_rate_83 : decode cX7_rate 83 = .ok (.dup, 1) := by decide +kernel
theorem dX7_rate_84 : decode cX7_rate 84 = .ok (.getfield 251, 3) := by decide +kernel
theorem dX7_rate_87 : decode cX7_rate 87 = .ok (.iload_n 1, 1) := by decide +kernel
theorem dX7_rate_88 : decode cX7_rate 88 = .ok (.ifCond .ne 7, 3) := by decide +kernel
theorem dX7_rate_91 : decode cX7_rate 91 = .ok (.lconst 1, 1) := by decide +kernel
theorem dX7_rate_92 : decode cX7_rate 92 = .ok (.goto 50, 3) := by decide +kernel
theorem dX7_rate_95 : decode cX7_rate 95 = .ok (.iload_n 1, 1) := by decide +kernel
theorem dX7_rate_96 : decode cX7_rate 96 = .ok (.iconst 1, 1) := by decide +kernel
theorem dX7_rate_97 : decode cX7_rate 97 = .ok (.if_icmp .ne 9, 3) := by decide +kernel
theorem dX7_rate_100 : decode cX7_rate 100 = .ok (.ldc2_w 255, 3) := by decide +kernel
theorem dX7_rate_103 : decode cX7_rate 103 = .ok (.goto 39, 3) := by decide +kernel
theorem dX7_rate_106 : decode cX7_rate 106 = .ok (.iload_n 1, 1) := by decide +kernel
theorem dX7_rate_107 : decode cX7_rate 107 = .ok (.iconst 2, 1) := by decide +kernel
theorem dX7_rate_108 : decode cX7_rate 108 = .ok (.if_icmp .ne 9, 3) := by decide +kernel
theorem dX7_rate_111 : decode cX7_rate 111 = .ok (.ldc2_w 257, 3) := by decide +kernel
theorem dX7_rate_114 : decode cX7_rate 114 = .ok (.goto 28, 3) := by decide +kernel
theorem dX7_rate_117 : decode cX7_rate 117 = .ok (.iload_n 1, 1) := by decide +kernel
theorem dX7_rate_118 : decode cX7_rate 118 = .ok (.iconst 3, 1) := by decide +kernel
theorem dX7_rate_119 : decode cX7_rate 119 = .ok (.if_icmp .ne 9, 3) := by decide +kernel
theorem dX7_rate_122 : decode cX7_rate 122 = .ok (.ldc2_w 259, 3) := by decide +kernel
theorem dX7_rate_125 : decode cX7_rate 125 = .ok (.goto 17, 3) := by decide +kernel
theorem dX7_rate_128 : decode cX7_rate 128 = .ok (.iload_n 1, 1) := by decide +kernel
theorem dX7_rate_129 : decode cX7_rate 129 = .ok (.iconst 4, 1) := by decide +kernel
theorem dX7_rate_130 : decode cX7_rate 130 = .ok (.if_icmp .ne 9, 3) := by decide +kernel
theorem dX7_rate_133 : decode cX7_rate 133 = .ok (.ldc2_w 261, 3) := by decide +kernel
theorem dX7_rate_136 : decode cX7_rate 136 = .ok (.goto 6, 3) := by decide +kernel
theorem dX7_rate_139 : decode cX7_rate 139 = .ok (.ldc2_w 263, 3) := by decide +kernel
theorem dX7_rate_142 : decode cX7_rate 142 = .ok (.ladd, 1) := by decide +kernel
theorem dX7_rate_143 : decode cX7_rate 143 = .ok (.putfield 251, 3) := by decide +kernel
theorem dX7_rate_146 : decode cX7_rate 146 = .ok (.iload_n 1, 1) := by decide +kernel
theorem dX7_rate_147 : decode cX7_rate 147 = .ok (.ifCond .ne 7, 3) := by decide +kernel
theorem dX7_rate_150 : decode cX7_rate 150 = .ok (.iload_n 3, 1) := by decide +kernel
theorem dX7_rate_151 : decode cX7_rate 151 = .ok (.goto 53, 3) := by decide +kernel
theorem dX7_rate_154 : decode cX7_rate 154 = .ok (.iload_n 1, 1) := by decide +kernel
theorem dX7_rate_155 : decode cX7_rate 155 = .ok (.iconst 1, 1) := by decide +kernel
theorem dX7_rate_156 : decode cX7_rate 156 = .ok (.if_icmp .ne 8, 3) := by decide +kernel
theorem dX7_rate_159 : decode cX7_rate 159 = .ok (.iload 4, 2) := by decide +kernel
theorem dX7_rate_161 : decode cX7_rate 161 = .ok (.goto 43, 3) := by decide +kernel
theorem dX7_rate_164 : decode cX7_rate 164 = .ok (.iload_n 1, 1) := by decide +kernel
theorem dX7_rate_165 : decode cX7_rate 165 = .ok (.iconst 2, 1) := by decide +kernel
theorem dX7_rate_166 : decode cX7_rate 166 = .ok (.if_icmp .ne 8, 3) := by decide +kernel
theorem dX7_rate_169 : decode cX7_rate 169 = .ok (.iload 5, 2) := by decide +kernel
theorem dX7_rate_171 : decode cX7_rate 171 = .ok (.goto 33, 3) := by decide +kernel
theorem dX7_rate_174 : decode cX7_rate 174 = .ok (.iload_n 1, 1) := by decide +kernel
theorem dX7_rate_175 : decode cX7_rate 175 = .ok (.iconst 3, 1) := by decide +kernel
theorem dX7_rate_176 : decode cX7_rate 176 = .ok (.if_icmp .ne 10, 3) := by decide +kernel
theorem dX7_rate_179 : decode cX7_rate 179 = .ok (.iconst 2, 1) := by decide +kernel
theorem dX7_rate_180 : decode cX7_rate 180 = .ok (.iload 4, 2) := by decide +kernel
theorem dX7_rate_182 : decode cX7_rate 182 = .ok (.imul, 1) := by decide +kernel
theorem dX7_rate_183 : decode cX7_rate 183 = .ok (.goto 21, 3) := by decide +kernel
theorem dX7_rate_186 : decode cX7_rate 186 = .ok (.iload_n 1, 1) := by decide +kernel
theorem dX7_rate_187 : decode cX7_rate 187 = .ok (.iconst 4, 1) := by decide +kernel
theorem dX7_rate_188 : decode cX7_rate 188 = .ok (.if_icmp .ne 10, 3) := by decide +kernel
theorem dX7_rate_191 : decode cX7_rate 191 = .ok (.iload 5, 2) := by decide +kernel
theorem dX7_rate_193 : decode cX7_rate 193 = .ok (.iload_n 2, 1) := by decide +kernel
theorem dX7_rate_194 : decode cX7_rate 194 = .ok (.iadd, 1) := by decide +kernel
theorem dX7_rate_195 : decode cX7_rate 195 = .ok (.goto 9, 3) := by decide +kernel
theorem dX7_rate_198 : decode cX7_rate 198 = .ok (.iload_n 3, 1) := by decide +kernel
theorem dX7_rate_199 : decode cX7_rate 199 = .ok (.aload_n 0, 1) := by decide +kernel
theorem dX7_rate_200 : decode cX7_rate 200 = .ok (.getfield 71, 3) := by decide +kernel
theorem dX7_rate_203 : decode cX7_rate 203 = .ok (.iadd, 1) := by decide +kernel
theorem dX7_rate_204 : decode cX7_rate 204 = .ok (.ireturn, 1) := by decide +kernel
theorem dX7_keep_0 : decode cX7_keep 0 = .ok (.aload_n 0, 1) := by decide +kernel
theorem dX7_keep_1 : decode cX7_keep 1 = .ok (.iconst 0, 1) := by decide +kernel
theorem dX7_keep_2 : decode cX7_keep 2 = .ok (.putfield 75, 3) := by decide +kernel
theorem dX7_keep_5 : decode cX7_keep 5 = .ok (.iload_n 1, 1) := by decide +kernel
theorem dX7_keep_6 : decode cX7_keep 6 = .ok (.iconst 0, 1) := by decide +kernel
theorem dX7_keep_7 : decode cX7_keep 7 = .ok (.iconst 1, 1) := by decide +kernel
theorem dX7_keep_8 : decode cX7_keep 8 = .ok (.invokestatic 78, 3) := by decide +kernel
theorem dX7_keep_11 : decode cX7_keep 11 = .ok (.ifCond .ne 5, 3) := by decide +kernel
theorem dX7_keep_14 : decode cX7_keep 14 = .ok (.iconst (-1), 1) := by decide +kernel
theorem dX7_keep_15 : decode cX7_keep 15 = .ok (.ireturn, 1) := by decide +kernel
theorem dX7_keep_16 : decode cX7_keep 16 = .ok (.iconst 0, 1) := by decide +kernel
theorem dX7_keep_17 : decode cX7_keep 17 = .ok (.istore_n 2, 1) := by decide +kernel
theorem dX7_keep_18 : decode cX7_keep 18 = .ok (.iload_n 2, 1) := by decide +kernel
theorem dX7_keep_19 : decode cX7_keep 19 = .ok (.bipush 26, 2) := by decide +kernel
theorem dX7_keep_21 : decode cX7_keep 21 = .ok (.if_icmp .ge 26, 3) := by decide +kernel
theorem dX7_keep_24 : decode cX7_keep 24 = .ok (.aload_n 0, 1) := by decide +kernel
theorem dX7_keep_25 : decode cX7_keep 25 = .ok (.getfield 34, 3) := by decide +kernel
theorem dX7_keep_28 : decode cX7_keep 28 = .ok (.bipush 26, 2) := by decide +kernel
theorem dX7_keep_30 : decode cX7_keep 30 = .ok (.iload_n 1, 1) := by decide +kernel
theorem dX7_keep_31 : decode cX7_keep 31 = .ok (.imul, 1) := by decide +kernel
theorem dX7_keep_32 : decode cX7_keep 32 = .ok (.iload_n 2, 1) := by decide +kernel
theorem dX7_keep_33 : decode cX7_keep 33 = .ok (.iadd, 1) := by decide +kernel
theorem dX7_keep_34 : decode cX7_keep 34 = .ok (.aload_n 0, 1) := by decide +kernel
theorem dX7_keep_35 : decode cX7_keep 35 = .ok (.getfield 28, 3) := by decide +kernel
theorem dX7_keep_38 : decode cX7_keep 38 = .ok (.iload_n 2, 1) := by decide +kernel
theorem dX7_keep_39 : decode cX7_keep 39 = .ok (.iaload, 1) := by decide +kernel
theorem dX7_keep_40 : decode cX7_keep 40 = .ok (.iastore, 1) := by decide +kernel
theorem dX7_keep_41 : decode cX7_keep 41 = .ok (.iinc 2 1, 3) := by decide +kernel
theorem dX7_keep_44 : decode cX7_keep 44 = .ok (.goto (-26), 3) := by decide +kernel
theorem dX7_keep_47 : decode cX7_keep 47 = .ok (.aload_n 0, 1) := by decide +kernel
theorem dX7_keep_48 : decode cX7_keep 48 = .ok (.getfield 37, 3) := by decide +kernel
theorem dX7_keep_51 : decode cX7_keep 51 = .ok (.iload_n 1, 1) := by decide +kernel
theorem dX7_keep_52 : decode cX7_keep 52 = .ok (.iconst 1, 1) := by decide +kernel
theorem dX7_keep_53 : decode cX7_keep 53 = .ok (.bastore, 1) := by decide +kernel
theorem dX7_keep_54 : decode cX7_keep 54 = .ok (.aload_n 0, 1) := by decide +kernel
theorem dX7_keep_55 : decode cX7_keep 55 = .ok (.getfield 28, 3) := by decide +kernel
theorem dX7_keep_58 : decode cX7_keep 58 = .ok (.bipush 24, 2) := by decide +kernel
theorem dX7_keep_60 : decode cX7_keep 60 = .ok (.iaload, 1) := by decide +kernel
theorem dX7_keep_61 : decode cX7_keep 61 = .ok (.ireturn, 1) := by decide +kernel
theorem dX7_back_0 : decode cX7_back 0 = .ok (.aload_n 0, 1) := by decide +kernel
theorem dX7_back_1 : decode cX7_back 1 = .ok (.iconst 0, 1) := by decide +kernel
theorem dX7_back_2 : decode cX7_back 2 = .ok (.putfield 75, 3) := by decide +kernel
theorem dX7_back_5 : decode cX7_back 5 = .ok (.iload_n 1, 1) := by decide +kernel
theorem dX7_back_6 : decode cX7_back 6 = .ok (.iconst 0, 1) := by decide +kernel
theorem dX7_back_7 : decode cX7_back 7 = .ok (.iconst 1, 1) := by decide +kernel
theorem dX7_back_8 : decode cX7_back 8 = .ok (.invokestatic 78, 3) := by decide +kernel
theorem dX7_back_11 : decode cX7_back 11 = .ok (.ifCond .ne 5, 3) := by decide +kernel
theorem dX7_back_14 : decode cX7_back 14 = .ok (.iconst (-1), 1) := by decide +kernel
theorem dX7_back_15 : decode cX7_back 15 = .ok (.ireturn, 1) := by decide +kernel
theorem dX7_back_16 : decode cX7_back 16 = .ok (.aload_n 0, 1) := by decide +kernel
theorem dX7_back_17 : decode cX7_back 17 = .ok (.getfield 37, 3) := by decide +kernel
theorem dX7_back_20 : decode cX7_back 20 = .ok (.iload_n 1, 1) := by decide +kernel
theorem dX7_back_21 : decode cX7_back 21 = .ok (.baload, 1) := by decide +kernel
theorem dX7_back_22 : decode cX7_back 22 = .ok (.ifCond .ne 6, 3) := by decide +kernel
theorem dX7_back_25 : decode cX7_back 25 = .ok (.bipush (-2), 2) := by decide +kernel
theorem dX7_back_27 : decode cX7_back 27 = .ok (.ireturn, 1) := by decide +kernel
theorem dX7_back_28 : decode cX7_back 28 = .ok (.iconst 0, 1) := by decide +kernel
theorem dX7_back_29 : decode cX7_back 29 = .ok (.istore_n 2, 1) := by decide +kernel
theorem dX7_back_30 : decode cX7_back 30 = .ok (.iload_n 2, 1) := by decide +kernel
theorem dX7_back_31 : decode cX7_back 31 = .ok (.bipush 26, 2) := by decide +kernel
theorem dX7_back_33 : decode cX7_back 33 = .ok (.if_icmp .ge 26, 3) := by decide +kernel
theorem dX7_back_36 : decode cX7_back 36 = .ok (.aload_n 0, 1) := by decide +kernel
theorem dX7_back_37 : decode cX7_back 37 = .ok (.getfield 28, 3) := by decide +kernel
theorem dX7_back_40 : decode cX7_back 40 = .ok (.iload_n 2, 1) := by decide +kernel
theorem dX7_back_41 : decode cX7_back 41 = .ok (.aload_n 0, 1) := by decide +kernel
theorem dX7_back_42 : decode cX7_back 42 = .ok (.getfield 34, 3) := by decide +kernel
theorem dX7_back_45 : decode cX7_back 45 = .ok (.bipush 26, 2) := by decide +kernel
theorem dX7_back_47 : decode cX7_back 47 = .ok (.iload_n 1, 1) := by decide +kernel
theorem dX7_back_48 : decode cX7_back 48 = .ok (.imul, 1) := by decide +kernel
theorem dX7_back_49 : decode cX7_back 49 = .ok (.iload_n 2, 1) := by decide +kernel
theorem dX7_back_50 : decode cX7_back 50 = .ok (.iadd, 1) := by decide +kernel
theorem dX7_back_51 : decode cX7_back 51 = .ok (.iaload, 1) := by decide +kernel
theorem dX7_back_52 : decode cX7_back 52 = .ok (.iastore, 1) := by decide +kernel
theorem dX7_back_53 : decode cX7_back 53 = .ok (.iinc 2 1, 3) := by decide +kernel
theorem dX7_back_56 : decode cX7_back 56 = .ok (.goto (-26), 3) := by decide +kernel
theorem dX7_back_59 : decode cX7_back 59 = .ok (.aload_n 0, 1) := by decide +kernel
theorem dX7_back_60 : decode cX7_back 60 = .ok (.iconst 0, 1) := by decide +kernel
theorem dX7_back_61 : decode cX7_back 61 = .ok (.putfield 150, 3) := by decide +kernel
theorem dX7_back_64 : decode cX7_back 64 = .ok (.aload_n 0, 1) := by decide +kernel
theorem dX7_back_65 : decode cX7_back 65 = .ok (.getfield 28, 3) := by decide +kernel
theorem dX7_back_68 : decode cX7_back 68 = .ok (.bipush 24, 2) := by decide +kernel
theorem dX7_back_70 : decode cX7_back 70 = .ok (.iaload, 1) := by decide +kernel
theorem dX7_back_71 : decode cX7_back 71 = .ok (.ireturn, 1) := by decide +kernel
theorem dX7_count_0 : decode cX7_count 0 = .ok (.aload_n 0, 1) := by decide +kernel
theorem dX7_count_1 : decode cX7_count 1 = .ok (.iconst 0, 1) := by decide +kernel
theorem dX7_count_2 : decode cX7_count 2 = .ok (.putfield 75, 3) := by decide +kernel
theorem dX7_count_5 : decode cX7_count 5 = .ok (.iload_n 1, 1) := by decide +kernel
theorem dX7_count_6 : decode cX7_count 6 = .ok (.iconst 3, 1) := by decide +kernel
theorem dX7_count_7 : decode cX7_count 7 = .ok (.if_icmp .ge 40, 3) := by decide +kernel
theorem dX7_count_10 : decode cX7_count 10 = .ok (.iload_n 1, 1) := by decide +kernel
theorem dX7_count_11 : decode cX7_count 11 = .ok (.ifCond .ne 10, 3) := by decide +kernel
theorem dX7_count_14 : decode cX7_count 14 = .ok (.aload_n 0, 1) := by decide +kernel
theorem dX7_count_15 : decode cX7_count 15 = .ok (.getfield 141, 3) := by decide +kernel
theorem dX7_count_18 : decode cX7_count 18 = .ok (.goto 28, 3) := by decide +kernel
theorem dX7_count_21 : decode cX7_count 21 = .ok (.iload_n 1, 1) := by decide +kernel
theorem dX7_count_22 : decode cX7_count 22 = .ok (.iconst 1, 1) := by decide +kernel
theorem dX7_count_23 : decode cX7_count 23 = .ok (.if_icmp .ne 10, 3) := by decide +kernel
theorem dX7_count_26 : decode cX7_count 26 = .ok (.aload_n 0, 1) := by decide +kernel
theorem dX7_count_27 : decode cX7_count 27 = .ok (.getfield 144, 3) := by decide +kernel
theorem dX7_count_30 : decode cX7_count 30 = .ok (.goto 16, 3) := by decide +kernel
theorem dX7_count_33 : decode cX7_count 33 = .ok (.iload_n 1, 1) := by decide +kernel
theorem dX7_count_34 : decode cX7_count 34 = .ok (.iconst 2, 1) := by decide +kernel
theorem dX7_count_35 : decode cX7_count 35 = .ok (.if_icmp .ne 10, 3) := by decide +kernel
theorem dX7_count_38 : decode cX7_count 38 = .ok (.aload_n 0, 1) := by decide +kernel
theorem dX7_count_39 : decode cX7_count 39 = .ok (.getfield 147, 3) := by decide +kernel
theorem dX7_count_42 : decode cX7_count 42 = .ok (.goto 4, 3) := by decide +kernel
theorem dX7_count_45 : decode cX7_count 45 = .ok (.iconst (-1), 1) := by decide +kernel
theorem dX7_count_46 : decode cX7_count 46 = .ok (.ireturn, 1) := by decide +kernel
theorem dX7_count_47 : decode cX7_count 47 = .ok (.iload_n 1, 1) := by decide +kernel
theorem dX7_count_48 : decode cX7_count 48 = .ok (.iconst 3, 1) := by decide +kernel
theorem dX7_count_49 : decode cX7_count 49 = .ok (.if_icmp .ne 10, 3) := by decide +kernel
theorem dX7_count_52 : decode cX7_count 52 = .ok (.aload_n 0, 1) := by decide +kernel
theorem dX7_count_53 : decode cX7_count 53 = .ok (.getfield 153, 3) := by decide +kernel
theorem dX7_count_56 : decode cX7_count 56 = .ok (.goto 41, 3) := by decide +kernel
theorem dX7_count_59 : decode cX7_count 59 = .ok (.iload_n 1, 1) := by decide +kernel
theorem dX7_count_60 : decode cX7_count 60 = .ok (.iconst 4, 1) := by decide +kernel
theorem dX7_count_61 : decode cX7_count 61 = .ok (.if_icmp .ne 10, 3) := by decide +kernel
theorem dX7_count_64 : decode cX7_count 64 = .ok (.aload_n 0, 1) := by decide +kernel
theorem dX7_count_65 : decode cX7_count 65 = .ok (.getfield 156, 3) := by decide +kernel
theorem dX7_count_68 : decode cX7_count 68 = .ok (.goto 29, 3) := by decide +kernel
theorem dX7_count_71 : decode cX7_count 71 = .ok (.iload_n 1, 1) := by decide +kernel
theorem dX7_count_72 : decode cX7_count 72 = .ok (.iconst 5, 1) := by decide +kernel
theorem dX7_count_73 : decode cX7_count 73 = .ok (.if_icmp .ne 10, 3) := by decide +kernel
theorem dX7_count_76 : decode cX7_count 76 = .ok (.aload_n 0, 1) := by decide +kernel
theorem dX7_count_77 : decode cX7_count 77 = .ok (.getfield 82, 3) := by decide +kernel
theorem dX7_count_80 : decode cX7_count 80 = .ok (.goto 17, 3) := by decide +kernel
theorem dX7_count_83 : decode cX7_count 83 = .ok (.iload_n 1, 1) := by decide +kernel
theorem dX7_count_84 : decode cX7_count 84 = .ok (.bipush 6, 2) := by decide +kernel
theorem dX7_count_86 : decode cX7_count 86 = .ok (.if_icmp .ne 10, 3) := by decide +kernel
theorem dX7_count_89 : decode cX7_count 89 = .ok (.aload_n 0, 1) := by decide +kernel
theorem dX7_count_90 : decode cX7_count 90 = .ok (.getfield 71, 3) := by decide +kernel
theorem dX7_count_93 : decode cX7_count 93 = .ok (.goto 4, 3) := by decide +kernel
theorem dX7_count_96 : decode cX7_count 96 = .ok (.iconst (-1), 1) := by decide +kernel
theorem dX7_count_97 : decode cX7_count 97 = .ok (.ireturn, 1) := by decide +kernel
theorem dX7_trace_0 : decode cX7_trace 0 = .ok (.aload_n 0, 1) := by decide +kernel
theorem dX7_trace_1 : decode cX7_trace 1 = .ok (.iconst 0, 1) := by decide +kernel
theorem dX7_trace_2 : decode cX7_trace 2 = .ok (.putfield 75, 3) := by decide +kernel
theorem dX7_trace_5 : decode cX7_trace 5 = .ok (.aload_n 0, 1) := by decide +kernel
theorem dX7_trace_6 : decode cX7_trace 6 = .ok (.getfield 251, 3) := by decide +kernel
theorem dX7_trace_9 : decode cX7_trace 9 = .ok (.lreturn, 1) := by decide +kernel
