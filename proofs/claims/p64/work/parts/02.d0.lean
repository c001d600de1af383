theorem dJ7_fill_53178_0 : decode cJ7_fill_53178 0 = .ok (.iconst 0, 1) := by decide +kernel
theorem dJ7_fill_53178_1 : decode cJ7_fill_53178 1 = .ok (.istore_n 2, 1) := by decide +kernel
theorem dJ7_fill_53178_2 : decode cJ7_fill_53178 2 = .ok (.aload_n 0, 1) := by decide +kernel
theorem dJ7_fill_53178_3 : decode cJ7_fill_53178 3 = .ok (.arraylength, 1) := by decide +kernel
theorem dJ7_fill_53178_4 : decode cJ7_fill_53178 4 = .ok (.istore_n 3, 1) := by decide +kernel
theorem dJ7_fill_53178_5 : decode cJ7_fill_53178 5 = .ok (.iload_n 2, 1) := by decide +kernel
theorem dJ7_fill_53178_6 : decode cJ7_fill_53178 6 = .ok (.iload_n 3, 1) := by decide +kernel
theorem dJ7_fill_53178_7 : decode cJ7_fill_53178 7 = .ok (.if_icmp .ge 13, 3) := by decide +kernel
theorem dJ7_fill_53178_10 : decode cJ7_fill_53178 10 = .ok (.aload_n 0, 1) := by decide +kernel
theorem dJ7_fill_53178_11 : decode cJ7_fill_53178 11 = .ok (.iload_n 2, 1) := by decide +kernel
theorem dJ7_fill_53178_12 : decode cJ7_fill_53178 12 = .ok (.iload_n 1, 1) := by decide +kernel
theorem dJ7_fill_53178_13 : decode cJ7_fill_53178 13 = .ok (.iastore, 1) := by decide +kernel
theorem dJ7_fill_53178_14 : decode cJ7_fill_53178 14 = .ok (.iinc 2 1, 3) := by decide +kernel
theorem dJ7_fill_53178_17 : decode cJ7_fill_53178 17 = .ok (.goto (-12), 3) := by decide +kernel
theorem dJ7_fill_53178_20 : decode cJ7_fill_53178 20 = .ok (.return_, 1) := by decide +kernel
theorem dX0_init_0 : decode cX0_init 0 = .ok (.aload_n 0, 1) := by decide +kernel
theorem dX0_init_1 : decode cX0_init 1 = .ok (.invokespecial 3, 3) := by decide +kernel
theorem dX0_init_4 : decode cX0_init 4 = .ok (.aload_n 0, 1) := by decide +kernel
theorem dX0_init_5 : decode cX0_init 5 = .ok (.bipush 6, 2) := by decide +kernel
theorem dX0_init_7 : decode cX0_init 7 = .ok (.newarray .int, 2) := by decide +kernel
theorem dX0_init_9 : decode cX0_init 9 = .ok (.putfield 9, 3) := by decide +kernel
theorem dX0_init_12 : decode cX0_init 12 = .ok (.aload_n 0, 1) := by decide +kernel
theorem dX0_init_13 : decode cX0_init 13 = .ok (.bipush 6, 2) := by decide +kernel
theorem dX0_init_15 : decode cX0_init 15 = .ok (.newarray .int, 2) := by decide +kernel
theorem dX0_init_17 : decode cX0_init 17 = .ok (.putfield 15, 3) := by decide +kernel
theorem dX0_init_20 : decode cX0_init 20 = .ok (.aload_n 0, 1) := by decide +kernel
theorem dX0_init_21 : decode cX0_init 21 = .ok (.bipush 6, 2) := by decide +kernel
theorem dX0_init_23 : decode cX0_init 23 = .ok (.newarray .int, 2) := by decide +kernel
theorem dX0_init_25 : decode cX0_init 25 = .ok (.putfield 18, 3) := by decide +kernel
theorem dX0_init_28 : decode cX0_init 28 = .ok (.aload_n 0, 1) := by decide +kernel
theorem dX0_init_29 : decode cX0_init 29 = .ok (.bipush 48, 2) := by decide +kernel
theorem dX0_init_31 : decode cX0_init 31 = .ok (.newarray .int, 2) := by decide +kernel
theorem dX0_init_33 : decode cX0_init 33 = .ok (.putfield 21, 3) := by decide +kernel
theorem dX0_init_36 : decode cX0_init 36 = .ok (.aload_n 0, 1) := by decide +kernel
theorem dX0_init_37 : decode cX0_init 37 = .ok (.bipush 8, 2) := by decide +kernel
theorem dX0_init_39 : decode cX0_init 39 = .ok (.newarray .int, 2) := by decide +kernel
theorem dX0_init_41 : decode cX0_init 41 = .ok (.putfield 24, 3) := by decide +kernel
theorem dX0_init_44 : decode cX0_init 44 = .ok (.aload_n 0, 1) := by decide +kernel
theorem dX0_init_45 : decode cX0_init 45 = .ok (.bipush 8, 2) := by decide +kernel
theorem dX0_init_47 : decode cX0_init 47 = .ok (.newarray .int, 2) := by decide +kernel
theorem dX0_init_49 : decode cX0_init 49 = .ok (.putfield 27, 3) := by decide +kernel
theorem dX0_init_52 : decode cX0_init 52 = .ok (.aload_n 0, 1) := by decide +kernel
theorem dX0_init_53 : decode cX0_init 53 = .ok (.bipush 8, 2) := by decide +kernel
theorem dX0_init_55 : decode cX0_init 55 = .ok (.newarray .int, 2) := by decide +kernel
theorem dX0_init_57 : decode cX0_init 57 = .ok (.putfield 30, 3) := by decide +kernel
theorem dX0_init_60 : decode cX0_init 60 = .ok (.aload_n 0, 1) := by decide +kernel
theorem dX0_init_61 : decode cX0_init 61 = .ok (.bipush 8, 2) := by decide +kernel
theorem dX0_init_63 : decode cX0_init 63 = .ok (.newarray .boolean, 2) := by decide +kernel
theorem dX0_init_65 : decode cX0_init 65 = .ok (.putfield 33, 3) := by decide +kernel
theorem dX0_init_68 : decode cX0_init 68 = .ok (.aload_n 0, 1) := by decide +kernel
theorem dX0_init_69 : decode cX0_init 69 = .ok (.bipush 10, 2) := by decide +kernel
theorem dX0_init_71 : decode cX0_init 71 = .ok (.putfield 37, 3) := by decide +kernel
theorem dX0_init_74 : decode cX0_init 74 = .ok (.aload_n 0, 1) := by decide +kernel
theorem dX0_init_75 : decode cX0_init 75 = .ok (.bipush 6, 2) := by decide +kernel
theorem dX0_init_77 : decode cX0_init 77 = .ok (.putfield 41, 3) := by decide +kernel
theorem dX0_init_80 : decode cX0_init 80 = .ok (.aload_n 0, 1) := by decide +kernel
theorem dX0_init_81 : decode cX0_init 81 = .ok (.iconst 5, 1) := by decide +kernel
theorem dX0_init_82 : decode cX0_init 82 = .ok (.putfield 44, 3) := by decide +kernel
theorem dX0_init_85 : decode cX0_init 85 = .ok (.aload_n 0, 1) := by decide +kernel
theorem dX0_init_86 : decode cX0_init 86 = .ok (.iconst 0, 1) := by decide +kernel
theorem dX0_init_87 : decode cX0_init 87 = .ok (.putfield 47, 3) := by decide +kernel
theorem dX0_init_90 : decode cX0_init 90 = .ok (.aload_n 0, 1) := by decide +kernel
theorem dX0_init_91 : decode cX0_init 91 = .ok (.getfield 9, 3) := by decide +kernel
theorem dX0_init_94 : decode cX0_init 94 = .ok (.bipush 100, 2) := by decide +kernel
theorem dX0_init_96 : decode cX0_init 96 = .ok (.invokestatic 50, 3) := by decide +kernel
theorem dX0_init_99 : decode cX0_init 99 = .ok (.aload_n 0, 1) := by decide +kernel
theorem dX0_init_100 : decode cX0_init 100 = .ok (.getfield 15, 3) := by decide +kernel
theorem dX0_init_103 : decode cX0_init 103 = .ok (.bipush 20, 2) := by decide +kernel
theorem dX0_init_105 : decode cX0_init 105 = .ok (.invokestatic 50, 3) := by decide +kernel
theorem dX0_init_108 : decode cX0_init 108 = .ok (.return_, 1) := by decide +kernel
theorem dX0_copyFrom_0 : decode cX0_copyFrom 0 = .ok (.aload_n 1, 1) := by decide +kernel
theorem dX0_copyFrom_1 : decode cX0_copyFrom 1 = .ok (.getfield 9, 3) := by decide +kernel
theorem dX0_copyFrom_4 : decode cX0_copyFrom 4 = .ok (.iconst 0, 1) := by decide +kernel
theorem dX0_copyFrom_5 : decode cX0_copyFrom 5 = .ok (.aload_n 0, 1) := by decide +kernel
theorem dX0_copyFrom_6 : decode cX0_copyFrom 6 = .ok (.getfield 9, 3) := by decide +kernel
theorem dX0_copyFrom_9 : decode cX0_copyFrom 9 = .ok (.iconst 0, 1) := by decide +kernel
theorem dX0_copyFrom_10 : decode cX0_copyFrom 10 = .ok (.bipush 6, 2) := by decide +kernel
theorem dX0_copyFrom_12 : decode cX0_copyFrom 12 = .ok (.invokestatic 56, 3) := by decide +kernel
theorem dX0_copyFrom_15 : decode cX0_copyFrom 15 = .ok (.aload_n 1, 1) := by decide +kernel
theorem dX0_copyFrom_16 : decode cX0_copyFrom 16 = .ok (.getfield 15, 3) := by decide +kernel
theorem dX0_copyFrom_19 : decode cX0_copyFrom 19 = .ok (.iconst 0, 1) := by decide +kernel
theorem dX0_copyFrom_20 : decode cX0_copyFrom 20 = .ok (.aload_n 0, 1) := by decide +kernel
theorem dX0_copyFrom_21 : decode cX0_copyFrom 21 = .ok (.getfield 15, 3) := by decide +kernel
theorem dX0_copyFrom_24 : decode cX0_copyFrom 24 = .ok (.iconst 0, 1) := by decide +kernel
theorem dX0_copyFrom_25 : decode cX0_copyFrom 25 = .ok (.bipush 6, 2) := by decide +kernel
theorem dX0_copyFrom_27 : decode cX0_copyFrom 27 = .ok (.invokestatic 56, 3) := by decide +kernel
theorem dX0_copyFrom_30 : decode cX0_copyFrom 30 = .ok (.aload_n 1, 1) := by decide +kernel
theorem dX0_copyFrom_31 : decode cX0_copyFrom 31 = .ok (.getfield 18, 3) := by decide +kernel
theorem dX0_copyFrom_34 : decode cX0_copyFrom 34 = .ok (.iconst 0, 1) := by decide +kernel
theorem dX0_copyFrom_35 : decode cX0_copyFrom 35 = .ok (.aload_n 0, 1) := by decide +kernel
theorem dX0_copyFrom_36 : decode cX0_copyFrom 36 = .ok (.getfield 18, 3) := by decide +kernel
theorem dX0_copyFrom_39 : decode cX0_copyFrom 39 = .ok (.iconst 0, 1) := by decide +kernel
theorem dX0_copyFrom_40 : decode cX0_copyFrom 40 = .ok (.bipush 6, 2) := by decide +kernel
theorem dX0_copyFrom_42 : decode cX0_copyFrom 42 = .ok (.invokestatic 56, 3) := by decide +kernel
theorem dX0_copyFrom_45 : decode cX0_copyFrom 45 = .ok (.aload_n 1, 1) := by decide +kernel
theorem dX0_copyFrom_46 : decode cX0_copyFrom 46 = .ok (.getfield 21, 3) := by decide +kernel
theorem dX0_copyFrom_49 : decode cX0_copyFrom 49 = .ok (.iconst 0, 1) := by decide +kernel
theorem dX0_copyFrom_50 : decode cX0_copyFrom 50 = .ok (.aload_n 0, 1) := by decide +kernel
theorem dX0_copyFrom_51 : decode cX0_copyFrom 51 = .ok (.getfield 21, 3) := by decide +kernel
theorem dX0_copyFrom_54 : decode cX0_copyFrom 54 = .ok (.iconst 0, 1) := by decide +kernel
theorem dX0_copyFrom_55 : decode cX0_copyFrom 55 = .ok (.bipush 48, 2) := by decide +kernel
theorem dX0_copyFrom_57 : decode cX0_copyFrom 57 = .ok (.invokestatic 56, 3) := by decide +kernel
theorem dX0_copyFrom_60 : decode cX0_copyFrom 60 = .ok (.aload_n 1, 1) := by decide +kernel
theorem dX0_copyFrom_61 : decode cX0_copyFrom 61 = .ok (.getfield 24, 3) := by decide +kernel
theorem dX0_copyFrom_64 : decode cX0_copyFrom 64 = .ok (.iconst 0, 1) := by decide +kernel
theorem dX0_copyFrom_65 : decode cX0_copyFrom 65 = .ok (.aload_n 0, 1) := by decide +kernel
theorem dX0_copyFrom_66 : decode cX0_copyFrom 66 = .ok (.getfield 24, 3) := by decide +kernel
theorem dX0_copyFrom_69 : decode cX0_copyFrom 69 = .ok (.iconst 0, 1) := by decide +kernel
theorem dX0_copyFrom_70 : decode cX0_copyFrom 70 = .ok (.bipush 8, 2) := by decide +kernel
theorem dX0_copyFrom_72 : decode cX0_copyFrom 72 = .ok (.invokestatic 56, 3) := by decide +kernel
theorem dX0_copyFrom_75 : decode cX0_copyFrom 75 = .ok (.aload_n 1, 1) := by decide +kernel
theorem dX0_copyFrom_76 : decode cX0_copyFrom 76 = .ok (.getfield 27, 3) := by decide +kernel
theorem dX0_copyFrom_79 : decode cX0_copyFrom 79 = .ok (.iconst 0, 1) := by decide +kernel
theorem dX0_copyFrom_80 : decode cX0_copyFrom 80 = .ok (.aload_n 0, 1) := by decide +kernel
theorem dX0_copyFrom_81 : decode cX0_copyFrom 81 = .ok (.getfield 27, 3) := by decide +kernel
theorem dX0_copyFrom_84 : decode cX0_copyFrom 84 = .ok (.iconst 0, 1) := by decide +kernel
theorem dX0_copyFrom_85 : decode cX0_copyFrom 85 = .ok (.bipush 8, 2) := by decide +kernel
theorem dX0_copyFrom_87 : decode cX0_copyFrom 87 = .ok (.invokestatic 56, 3) := by decide +kernel
theorem dX0_copyFrom_90 : decode cX0_copyFrom 90 = .ok (.aload_n 1, 1) := by decide +kernel
theorem dX0_copyFrom_91 : decode cX0_copyFrom 91 = .ok (.getfield 30, 3) := by decide +kernel
theorem dX0_copyFrom_94 : decode cX0_copyFrom 94 = .ok (.iconst 0, 1) := by decide +kernel
theorem dX0_copyFrom_95 : decode cX0_copyFrom 95 = .ok (.aload_n 0, 1) := by decide +kernel
theorem dX0_copyFrom_96 : decode cX0_copyFrom 96 = .ok (.getfield 30, 3) := by decide +kernel
theorem dX0_copyFrom_99 : decode cX0_copyFrom 99 = .ok (.iconst 0, 1) := by decide +kernel
theorem dX0_copyFrom_100 : decode cX0_copyFrom 100 = .ok (.bipush 8, 2) := by decide +kernel
theorem dX0_copyFrom_102 : decode cX0_copyFrom 102 = .ok (.invokestatic 56, 3) := by decide +kernel
theorem dX0_copyFrom_105 : decode cX0_copyFrom 105 = .ok (.aload_n 1, 1) := by decide +kernel
theorem dX0_copyFrom_106 : decode cX0_copyFrom 106 = .ok (.getfield 33, 3) := by decide +kernel
theorem dX0_copyFrom_109 : decode cX0_copyFrom 109 = .ok (.iconst 0, 1) := by decide +kernel
theorem dX0_copyFrom_110 : decode cX0_copyFrom 110 = .ok (.aload_n 0, 1) := by decide +kernel
theorem dX0_copyFrom_111 : decode cX0_copyFrom 111 = .ok (.getfield 33, 3) := by decide +kernel
theorem dX0_copyFrom_114 : decode cX0_copyFrom 114 = .ok (.iconst 0, 1) := by decide +kernel
theorem dX0_copyFrom_115 : decode cX0_copyFrom 115 = .ok (.bipush 8, 2) := by decide +kernel
theorem dX0_copyFrom_117 : decode cX0_copyFrom 117 = .ok (.invokestatic 56, 3) := by decide +kernel
theorem dX0_copyFrom_120 : decode cX0_copyFrom 120 = .ok (.aload_n 0, 1) := by decide +kernel
theorem dX0_copyFrom_121 : decode cX0_copyFrom 121 = .ok (.aload_n 1, 1) := by decide +kernel
theorem dX0_copyFrom_122 : decode cX0_copyFrom 122 = .ok (.getfield 37, 3) := by decide +kernel
theorem dX0_copyFrom_125 : decode cX0_copyFrom 125 = .ok (.putfield 37, 3) := by decide +kernel
theorem dX0_copyFrom_128 : decode cX0_copyFrom 128 = .ok (.aload_n 0, 1) := by decide +kernel
theorem dX0_copyFrom_129 : decode cX0_copyFrom 129 = .ok (.aload_n 1, 1) := by decide +kernel
theorem dX0_copyFrom_130 : decode cX0_copyFrom 130 = .ok (.getfield 41, 3) := by decide +kernel
theorem dX0_copyFrom_133 : decode cX0_copyFrom 133 = .ok (.putfield 41, 3) := by decide +kernel
theorem dX0_copyFrom_136 : decode cX0_copyFrom 136 = .ok (.aload_n 0, 1) := by decide +kernel
theorem dX0_copyFrom_137 : decode cX0_copyFrom 137 = .ok (.aload_n 1, 1) := by decide +kernel
theorem dX0_copyFrom_138 : decode cX0_copyFrom 138 = .ok (.getfield 44, 3) := by decide +kernel
theorem dX0_copyFrom_141 : decode cX0_copyFrom 141 = .ok (.putfield 44, 3) := by decide +kernel
theorem dX0_copyFrom_144 : decode cX0_copyFrom 144 = .ok (.aload_n 0, 1) := by decide +kernel
theorem dX0_copyFrom_145 : decode cX0_copyFrom 145 = .ok (.aload_n 1, 1) := by decide +kernel
theorem dX0_copyFrom_146 : decode cX0_copyFrom 146 = .ok (.getfield 47, 3) := by decide +kernel
theorem dX0_copyFrom_149 : decode cX0_copyFrom 149 = .ok (.putfield 47, 3) := by decide +kernel
theorem dX0_copyFrom_152 : decode cX0_copyFrom 152 = .ok (.aload_n 0, 1) := by decide +kernel
theorem dX0_copyFrom_153 : decode cX0_copyFrom 153 = .ok (.aload_n 1, 1) := by decide +kernel
theorem dX0_copyFrom_154 : decode cX0_copyFrom 154 = .ok (.getfield 62, 3) := by decide +kernel
theorem dX0_copyFrom_157 : decode cX0_copyFrom 157 = .ok (.putfield 62, 3) := by decide +kernel
theorem dX0_copyFrom_160 : decode cX0_copyFrom 160 = .ok (.aload_n 0, 1) := by decide +kernel
theorem dX0_copyFrom_161 : decode cX0_copyFrom 161 = .ok (.aload_n 1, 1) := by decide +kernel
theorem dX0_copyFrom_162 : decode cX0_copyFrom 162 = .ok (.getfield 65, 3) := by decide +kernel
theorem dX0_copyFrom_165 : decode cX0_copyFrom 165 = .ok (.putfield 65, 3) := by decide +kernel
theorem dX0_copyFrom_168 : decode cX0_copyFrom 168 = .ok (.aload_n 0, 1) := by decide +kernel
theorem dX0_copyFrom_169 : decode cX0_copyFrom 169 = .ok (.aload_n 1, 1) := by decide +kernel
theorem dX0_copyFrom_170 : decode cX0_copyFrom 170 = .ok (.getfield 68, 3) := by decide +kernel
theorem dX0_copyFrom_173 : decode cX0_copyFrom 173 = .ok (.putfield 68, 3) := by decide +kernel
theorem dX0_copyFrom_176 : decode cX0_copyFrom 176 = .ok (.aload_n 0, 1) := by decide +kernel
theorem dX0_copyFrom_177 : decode cX0_copyFrom 177 = .ok (.aload_n 1, 1) := by decide +kernel
theorem dX0_copyFrom_178 : decode cX0_copyFrom 178 = .ok (.getfield 71, 3) := by decide +kernel
theorem dX0_copyFrom_181 : decode cX0_copyFrom 181 = .ok (.putfield 71, 3) := by decide +kernel
theorem dX0_copyFrom_184 : decode cX0_copyFrom 184 = .ok (.aload_n 0, 1) := by decide +kernel
theorem dX0_copyFrom_185 : decode cX0_copyFrom 185 = .ok (.aload_n 1, 1) := by decide +kernel
theorem dX0_copyFrom_186 : decode cX0_copyFrom 186 = .ok (.getfield 74, 3) := by decide +kernel
theorem dX0_copyFrom_189 : decode cX0_copyFrom 189 = .ok (.putfield 74, 3) := by decide +kernel
theorem dX0_copyFrom_192 : decode cX0_copyFrom 192 = .ok (.aload_n 0, 1) := by decide +kernel
theorem dX0_copyFrom_193 : decode cX0_copyFrom 193 = .ok (.aload_n 1, 1) := by decide +kernel
theorem dX0_copyFrom_194 : decode cX0_copyFrom 194 = .ok (.getfield 77, 3) := by decide +kernel
theorem dX0_copyFrom_197 : decode cX0_copyFrom 197 = .ok (.putfield 77, 3) := by decide +kernel
theorem dX0_copyFrom_200 : decode cX0_copyFrom 200 = .ok (.aload_n 0, 1) := by decide +kernel
theorem dX0_copyFrom_201 : decode cX0_copyFrom 201 = .ok (.aload_n 1, 1) := by decide +kernel
theorem dX0_copyFrom_202 : decode cX0_copyFrom 202 = .ok (.getfield 80, 3) := by decide +kernel
theorem dX0_copyFrom_205 : decode cX0_copyFrom 205 = .ok (.putfield 80, 3) := by decide +kernel
theorem dX0_copyFrom_208 : decode cX0_copyFrom 208 = .ok (.return_, 1) := by decide +kernel
theorem dX0_worth_0 : decode cX0_worth 0 = .ok (.aload_n 0, 1) := by decide +kernel
theorem dX0_worth_1 : decode cX0_worth 1 = .ok (.getfield 24, 3) := by decide +kernel
theorem dX0_worth_4 : decode cX0_worth 4 = .ok (.iload_n 1, 1) := by decide +kernel
theorem dX0_worth_5 : decode cX0_worth 5 = .ok (.iaload, 1) := by decide +kernel
theorem dX0_worth_6 : decode cX0_worth 6 = .ok (.istore_n 2, 1) := by decide +kernel
theorem dX0_worth_7 : decode cX0_worth 7 = .ok (.iconst 0, 1) := by decide +kernel
theorem dX0_worth_8 : decode cX0_worth 8 = .ok (.istore_n 3, 1) := by decide +kernel
theorem dX0_worth_9 : decode cX0_worth 9 = .ok (.iload_n 3, 1) := by decide +kernel
theorem dX0_worth_10 : decode cX0_worth 10 = .ok (.bipush 6, 2) := by decide +kernel
theorem dX0_worth_12 : decode cX0_worth 12 = .ok (.if_icmp .ge 29, 3) := by decide +kernel
theorem dX0_worth_15 : decode cX0_worth 15 = .ok (.iload_n 2, 1) := by decide +kernel
theorem dX0_worth_16 : decode cX0_worth 16 = .ok (.aload_n 0, 1) := by decide +kernel
theorem dX0_worth_17 : decode cX0_worth 17 = .ok (.getfield 21, 3) := by decide +kernel
theorem dX0_worth_20 : decode cX0_worth 20 = .ok (.iload_n 1, 1) := by decide +kernel
theorem dX0_worth_21 : decode cX0_worth 21 = .ok (.iload_n 3, 1) := by decide +kernel
theorem dX0_worth_22 : decode cX0_worth 22 = .ok (.invokestatic 83, 3) := by decide +kernel
theorem dX0_worth_25 : decode cX0_worth 25 = .ok (.iaload, 1) := by decide +kernel
theorem dX0_worth_26 : decode cX0_worth 26 = .ok (.aload_n 0, 1) := by decide +kernel
theorem dX0_worth_27 : decode cX0_worth 27 = .ok (.getfield 9, 3) := by decide +kernel
theorem dX0_worth_30 : decode cX0_worth 30 = .ok (.iload_n 3, 1) := by decide +kernel
theorem dX0_worth_31 : decode cX0_worth 31 = .ok (.iaload, 1) := by decide +kernel
theorem dX0_worth_32 : decode cX0_worth 32 = .ok (.imul, 1) := by decide +kernel
theorem dX0_worth_33 : decode cX0_worth 33 = .ok (.iadd, 1) := by decide +kernel
theorem dX0_worth_34 : decode cX0_worth 34 = .ok (.istore_n 2, 1) := by decide +kernel
theorem dX0_worth_35 : decode cX0_worth 35 = .ok (.iinc 3 1, 3) := by decide +kernel
theorem dX0_worth_38 : decode cX0_worth 38 = .ok (.goto (-29), 3) := by decide +kernel
theorem dX0_worth_41 : decode cX0_worth 41 = .ok (.iload_n 2, 1) := by decide +kernel
theorem dX0_worth_42 : decode cX0_worth 42 = .ok (.ireturn, 1) := by decide +kernel
theorem dX0_cover_0 : decode cX0_cover 0 = .ok (.aload_n 0, 1) := by decide +kernel
theorem dX0_cover_1 : decode cX0_cover 1 = .ok (.iload_n 1, 1) := by decide +kernel
theorem dX0_cover_2 : decode cX0_cover 2 = .ok (.iconst 0, 1) := by decide +kernel
theorem dX0_cover_3 : decode cX0_cover 3 = .ok (.iconst 1, 1) := by decide +kernel
theorem dX0_cover_4 : decode cX0_cover 4 = .ok (.invokevirtual 87, 3) := by decide +kernel
theorem dX0_cover_7 : decode cX0_cover 7 = .ok (.ireturn, 1) := by decide +kernel
theorem dX0_coverAfterFall_0 : decode cX0_coverAfterFall 0 = .ok (.iconst 0, 1) := by decide +kernel
theorem dX0_coverAfterFall_1 : decode cX0_coverAfterFall 1 = .ok (.istore 4, 2) := by decide +kernel
theorem dX0_coverAfterFall_3 : decode cX0_coverAfterFall 3 = .ok (.iconst 0, 1) := by decide +kernel
theorem dX0_coverAfterFall_4 : decode cX0_coverAfterFall 4 = .ok (.istore 5, 2) := by decide +kernel
theorem dX0_coverAfterFall_6 : decode cX0_coverAfterFall 6 = .ok (.iload 5, 2) := by decide +kernel
theorem dX0_coverAfterFall_8 : decode cX0_coverAfterFall 8 = .ok (.bipush 6, 2) := by decide +kernel
theorem dX0_coverAfterFall_10 : decode cX0_coverAfterFall 10 = .ok (.if_icmp .ge 49, 3) := by decide +kernel
theorem dX0_coverAfterFall_13 : decode cX0_coverAfterFall 13 = .ok (.iload 4, 2) := by decide +kernel
theorem dX0_coverAfterFall_15 : decode cX0_coverAfterFall 15 = .ok (.aload_n 0, 1) := by decide +kernel
theorem dX0_coverAfterFall_16 : decode cX0_coverAfterFall 16 = .ok (.getfield 21, 3) := by decide +kernel
theorem dX0_coverAfterFall_19 : decode cX0_coverAfterFall 19 = .ok (.iload_n 1, 1) := by decide +kernel
theorem dX0_coverAfterFall_20 : decode cX0_coverAfterFall 20 = .ok (.iload 5, 2) := by decide +kernel
theorem dX0_coverAfterFall_22 : decode cX0_coverAfterFall 22 = .ok (.invokestatic 83, 3) := by decide +kernel
theorem dX0_coverAfterFall_25 : decode cX0_coverAfterFall 25 = .ok (.iaload, 1) := by decide +kernel
theorem dX0_coverAfterFall_26 : decode cX0_coverAfterFall 26 = .ok (.aload_n 0, 1) := by decide +kernel
theorem dX0_coverAfterFall_27 : decode cX0_coverAfterFall 27 = .ok (.getfield 9, 3) := by decide +kernel
theorem dX0_coverAfterFall_30 : decode cX0_coverAfterFall 30 = .ok (.iload 5, 2) := by decide +kernel
theorem dX0_coverAfterFall_32 : decode cX0_coverAfterFall 32 = .ok (.iaload, 1) := by decide +kernel
theorem dX0_coverAfterFall_33 : decode cX0_coverAfterFall 33 = .ok (.iload_n 2, 1) := by decide +kernel
theorem dX0_coverAfterFall_34 : decode cX0_coverAfterFall 34 = .ok (.iload_n 3, 1) := by decide +kernel
theorem dX0_coverAfterFall_35 : decode cX0_coverAfterFall 35 = .ok (.invokestatic 91, 3) := by decide +kernel
theorem dX0_coverAfterFall_38 : decode cX0_coverAfterFall 38 = .ok (.imul, 1) := by decide +kernel
theorem dX0_coverAfterFall_39 : decode cX0_coverAfterFall 39 = .ok (.bipush 100, 2) := by decide +kernel
theorem dX0_coverAfterFall_41 : decode cX0_coverAfterFall 41 = .ok (.aload_n 0, 1) := by decide +kernel
theorem dX0_coverAfterFall_42 : decode cX0_coverAfterFall 42 = .ok (.getfield 15, 3) := by decide +kernel
theorem dX0_coverAfterFall_45 : decode cX0_coverAfterFall 45 = .ok (.iload 5, 2) := by decide +kernel
theorem dX0_coverAfterFall_47 : decode cX0_coverAfterFall 47 = .ok (.iaload, 1) := by decide +kernel
theorem dX0_coverAfterFall_48 : decode cX0_coverAfterFall 48 = .ok (.isub, 1) := by decide +kernel
theorem dX0_coverAfterFall_49 : decode cX0_coverAfterFall 49 = .ok (.imul, 1) := by decide +kernel
theorem dX0_coverAfterFall_50 : decode cX0_coverAfterFall 50 = .ok (.iadd, 1) := by decide +kernel
theorem dX0_coverAfterFall_51 : decode cX0_coverAfterFall 51 = .ok (.istore 4, 2) := by decide +kernel
theorem dX0_coverAfterFall_53 : decode cX0_coverAfterFall 53 = .ok (.iinc 5 1, 3) := by decide +kernel
theorem dX0_coverAfterFall_56 : decode cX0_coverAfterFall 56 = .ok (.goto (-50), 3) := by decide +kernel
theorem dX0_coverAfterFall_59 : decode cX0_coverAfterFall 59 = .ok (.aload_n 0, 1) := by decide +kernel
theorem dX0_coverAfterFall_60 : decode cX0_coverAfterFall 60 = .ok (.getfield 24, 3) := by decide +kernel
theorem dX0_coverAfterFall_63 : decode cX0_coverAfterFall 63 = .ok (.iload_n 1, 1) := by decide +kernel
theorem dX0_coverAfterFall_64 : decode cX0_coverAfterFall 64 = .ok (.iaload, 1) := by decide +kernel
theorem dX0_coverAfterFall_65 : decode cX0_coverAfterFall 65 = .ok (.iload 4, 2) := by decide +kernel
theorem dX0_coverAfterFall_67 : decode cX0_coverAfterFall 67 = .ok (.bipush 100, 2) := by decide +kernel
theorem dX0_coverAfterFall_69 : decode cX0_coverAfterFall 69 = .ok (.idiv, 1) := by decide +kernel
theorem dX0_coverAfterFall_70 : decode cX0_coverAfterFall 70 = .ok (.iadd, 1) := by decide +kernel
theorem dX0_coverAfterFall_71 : decode cX0_coverAfterFall 71 = .ok (.ireturn, 1) := by decide +kernel
theorem dX0_staysCovered_0 : decode cX0_staysCovered 0 = .ok (.aload_n 0, 1) := by decide +kernel
theorem dX0_staysCovered_1 : decode cX0_staysCovered 1 = .ok (.getfield 27, 3) := by decide +kernel
theorem dX0_staysCovered_4 : decode cX0_staysCovered 4 = .ok (.iload_n 1, 1) := by decide +kernel
theorem dX0_staysCovered_5 : decode cX0_staysCovered 5 = .ok (.iaload, 1) := by decide +kernel
theorem dX0_staysCovered_6 : decode cX0_staysCovered 6 = .ok (.aload_n 0, 1) := by decide +kernel
theorem dX0_staysCovered_7 : decode cX0_staysCovered 7 = .ok (.iload_n 1, 1) := by decide +kernel
theorem dX0_staysCovered_8 : decode cX0_staysCovered 8 = .ok (.iload_n 2, 1) := by decide +kernel
theorem dX0_staysCovered_9 : decode cX0_staysCovered 9 = .ok (.iload_n 3, 1) := by decide +kernel
theorem dX0_staysCovered_10 : decode cX0_staysCovered 10 = .ok (.invokevirtual 87, 3) := by decide +kernel
theorem dX0_staysCovered_13 : decode cX0_staysCovered 13 = .ok (.if_icmp .gt 7, 3) := by decide +kernel
theorem dX0_staysCovered_16 : decode cX0_staysCovered 16 = .ok (.iconst 1, 1) := by decide +kernel
theorem dX0_staysCovered_17 : decode cX0_staysCovered 17 = .ok (.goto 4, 3) := by decide +kernel
theorem dX0_staysCovered_20 : decode cX0_staysCovered 20 = .ok (.iconst 0, 1) := by decide +kernel
theorem dX0_staysCovered_21 : decode cX0_staysCovered 21 = .ok (.ireturn, 1) := by decide +kernel
theorem dX0_openRoom_0 : decode cX0_openRoom 0 = .ok (.aload_n 0, 1) := by decide +kernel
theorem dX0_openRoom_1 : decode cX0_openRoom 1 = .ok (.iload_n 1, 1) := by decide +kernel
theorem dX0_openRoom_2 : decode cX0_openRoom 2 = .ok (.invokevirtual 94, 3) := by decide +kernel
theorem dX0_openRoom_5 : decode cX0_openRoom 5 = .ok (.aload_n 0, 1) := by decide +kernel
theorem dX0_openRoom_6 : decode cX0_openRoom 6 = .ok (.getfield 27, 3) := by decide +kernel
theorem dX0_openRoom_9 : decode cX0_openRoom 9 = .ok (.iload_n 1, 1) := by decide +kernel
theorem dX0_openRoom_10 : decode cX0_openRoom 10 = .ok (.iaload, 1) := by decide +kernel
theorem dX0_openRoom_11 : decode cX0_openRoom 11 = .ok (.isub, 1) := by decide +kernel
theorem dX0_openRoom_12 : decode cX0_openRoom 12 = .ok (.istore_n 2, 1) := by decide +kernel
theorem dX0_openRoom_13 : decode cX0_openRoom 13 = .ok (.aload_n 0, 1) := by decide +kernel
theorem dX0_openRoom_14 : decode cX0_openRoom 14 = .ok (.getfield 33, 3) := by decide +kernel
theorem dX0_openRoom_17 : decode cX0_openRoom 17 = .ok (.iload_n 1, 1) := by decide +kernel
theorem dX0_openRoom_18 : decode cX0_openRoom 18 = .ok (.baload, 1) := by decide +kernel
theorem dX0_openRoom_19 : decode cX0_openRoom 19 = .ok (.ifCond .ne 7, 3) := by decide +kernel
theorem dX0_openRoom_22 : decode cX0_openRoom 22 = .ok (.iload_n 2, 1) := by decide +kernel
theorem dX0_openRoom_23 : decode cX0_openRoom 23 = .ok (.ifCond .ge 7, 3) := by decide +kernel
theorem dX0_openRoom_26 : decode cX0_openRoom 26 = .ok (.iconst 0, 1) := by decide +kernel
theorem dX0_openRoom_27 : decode cX0_openRoom 27 = .ok (.goto 4, 3) := by decide +kernel
theorem dX0_openRoom_30 : decode cX0_openRoom 30 = .ok (.iload_n 2, 1) := by decide +kernel
theorem dX0_openRoom_31 : decode cX0_openRoom 31 = .ok (.ireturn, 1) := by decide +kernel
theorem dX0_interestOn_0 : decode cX0_interestOn 0 = .ok (.iload_n 1, 1) := by decide +kernel
theorem dX0_interestOn_1 : decode cX0_interestOn 1 = .ok (.i2l, 1) := by decide +kernel
theorem dX0_interestOn_2 : decode cX0_interestOn 2 = .ok (.aload_n 0, 1) := by decide +kernel
theorem dX0_interestOn_3 : decode cX0_interestOn 3 = .ok (.getfield 37, 3) := by decide +kernel
theorem dX0_interestOn_6 : decode cX0_interestOn 6 = .ok (.i2l, 1) := by decide +kernel
theorem dX0_interestOn_7 : decode cX0_interestOn 7 = .ok (.lmul, 1) := by decide +kernel
theorem dX0_interestOn_8 : decode cX0_interestOn 8 = .ok (.ldc2_w 98, 3) := by decide +kernel
theorem dX0_interestOn_11 : decode cX0_interestOn 11 = .ok (.ladd, 1) := by decide +kernel
theorem dX0_interestOn_12 : decode cX0_interestOn 12 = .ok (.ldc2_w 100, 3) := by decide +kernel
theorem dX0_interestOn_15 : decode cX0_interestOn 15 = .ok (.ldiv, 1) := by decide +kernel
theorem dX0_interestOn_16 : decode cX0_interestOn 16 = .ok (.l2i, 1) := by decide +kernel
theorem dX0_interestOn_17 : decode cX0_interestOn 17 = .ok (.ireturn, 1) := by decide +kernel
theorem dX0_piecesOfAll_0 : decode cX0_piecesOfAll 0 = .ok (.iconst 0, 1) := by decide +kernel
theorem dX0_piecesOfAll_1 : decode cX0_piecesOfAll 1 = .ok (.istore_n 2, 1) := by decide +kernel
theorem dX0_piecesOfAll_2 : decode cX0_piecesOfAll 2 = .ok (.iconst 0, 1) := by decide +kernel
theorem dX0_piecesOfAll_3 : decode cX0_piecesOfAll 3 = .ok (.istore_n 3, 1) := by decide +kernel
theorem dX0_piecesOfAll_4 : decode cX0_piecesOfAll 4 = .ok (.iload_n 3, 1) := by decide +kernel
theorem dX0_piecesOfAll_5 : decode cX0_piecesOfAll 5 = .ok (.bipush 8, 2) := by decide +kernel
theorem dX0_piecesOfAll_7 : decode cX0_piecesOfAll 7 = .ok (.if_icmp .ge 22, 3) := by decide +kernel
theorem dX0_piecesOfAll_10 : decode cX0_piecesOfAll 10 = .ok (.iload_n 2, 1) := by decide +kernel
theorem dX0_piecesOfAll_11 : decode cX0_piecesOfAll 11 = .ok (.aload_n 0, 1) := by decide +kernel
theorem dX0_piecesOfAll_12 : decode cX0_piecesOfAll 12 = .ok (.getfield 21, 3) := by decide +kernel
theorem dX0_piecesOfAll_15 : decode cX0_piecesOfAll 15 = .ok (.iload_n 3, 1) := by decide +kernel
theorem dX0_piecesOfAll_16 : decode cX0_piecesOfAll 16 = .ok (.iload_n 1, 1) := by decide +kernel
theorem dX0_piecesOfAll_17 : decode cX0_piecesOfAll 17 = .ok (.invokestatic 83, 3) := by decide +kernel
theorem dX0_piecesOfAll_20 : decode cX0_piecesOfAll 20 = .ok (.iaload, 1) := by decide +kernel
theorem dX0_piecesOfAll_21 : decode cX0_piecesOfAll 21 = .ok (.iadd, 1) := by decide +kernel
theorem dX0_piecesOfAll_22 : decode cX0_piecesOfAll 22 = .ok (.istore_n 2, 1) := by decide +kernel
theorem dX0_piecesOfAll_23 : decode cX0_piecesOfAll 23 = .ok (.iinc 3 1, 3) := by decide +kernel
theorem dX0_piecesOfAll_26 : decode cX0_piecesOfAll 26 = .ok (.goto (-22), 3) := by decide +kernel
theorem dX0_piecesOfAll_29 : decode cX0_piecesOfAll 29 = .ok (.iload_n 2, 1) := by decide +kernel
theorem dX0_piecesOfAll_30 : decode cX0_piecesOfAll 30 = .ok (.ireturn, 1) := by decide +kernel
theorem dX0_debtsOfAll_0 : decode cX0_debtsOfAll 0 = .ok (.iconst 0, 1) := by decide +kernel
theorem dX0_debtsOfAll_1 : decode cX0_debtsOfAll 1 = .ok (.istore_n 1, 1) := by decide +kernel
theorem dX0_debtsOfAll_2 : decode cX0_debtsOfAll 2 = .ok (.iconst 0, 1) := by decide +kernel
theorem dX0_debtsOfAll_3 : decode cX0_debtsOfAll 3 = .ok (.istore_n 2, 1) := by decide +kernel
theorem dX0_debtsOfAll_4 : decode cX0_debtsOfAll 4 = .ok (.iload_n 2, 1) := by decide +kernel
theorem dX0_debtsOfAll_5 : decode cX0_debtsOfAll 5 = .ok (.bipush 8, 2) := by decide +kernel
theorem dX0_debtsOfAll_7 : decode cX0_debtsOfAll 7 = .ok (.if_icmp .ge 18, 3) := by decide +kernel
theorem dX0_debtsOfAll_10 : decode cX0_debtsOfAll 10 = .ok (.iload_n 1, 1) := by decide +kernel
theorem dX0_debtsOfAll_11 : decode cX0_debtsOfAll 11 = .ok (.aload_n 0, 1) := by decide +kernel
theorem dX0_debtsOfAll_12 : decode cX0_debtsOfAll 12 = .ok (.getfield 27, 3) := by decide +kernel
theorem dX0_debtsOfAll_15 : decode cX0_debtsOfAll 15 = .ok (.iload_n 2, 1) := by decide +kernel
theorem dX0_debtsOfAll_16 : decode cX0_debtsOfAll 16 = .ok (.iaload, 1) := by decide +kernel
theorem dX0_debtsOfAll_17 : decode cX0_debtsOfAll 17 = .ok (.iadd, 1) := by decide +kernel
theorem dX0_debtsOfAll_18 : decode cX0_debtsOfAll 18 = .ok (.istore_n 1, 1) := by decide +kernel
theorem dX0_debtsOfAll_19 : decode cX0_debtsOfAll 19 = .ok (.iinc 2 1, 3) := by decide +kernel
theorem dX0_debtsOfAll_22 : decode cX0_debtsOfAll 22 = .ok (.goto (-18), 3) := by decide +kernel
theorem dX0_debtsOfAll_25 : decode cX0_debtsOfAll 25 = .ok (.iload_n 1, 1) := by decide +kernel
theorem dX0_debtsOfAll_26 : decode cX0_debtsOfAll 26 = .ok (.ireturn, 1) := by decide +kernel
theorem dX0_coverOfAll_0 : decode cX0_coverOfAll 0 = .ok (.iconst 0, 1) := by decide +kernel
theorem dX0_coverOfAll_1 : decode cX0_coverOfAll 1 = .ok (.istore_n 1, 1) := by decide +kernel
theorem dX0_coverOfAll_2 : decode cX0_coverOfAll 2 = .ok (.iconst 0, 1) := by decide +kernel
theorem dX0_coverOfAll_3 : decode cX0_coverOfAll 3 = .ok (.istore_n 2, 1) := by decide +kernel
theorem dX0_coverOfAll_4 : decode cX0_coverOfAll 4 = .ok (.iload_n 2, 1) := by decide +kernel
theorem dX0_coverOfAll_5 : decode cX0_coverOfAll 5 = .ok (.bipush 8, 2) := by decide +kernel
theorem dX0_coverOfAll_7 : decode cX0_coverOfAll 7 = .ok (.if_icmp .ge 17, 3) := by decide +kernel
theorem dX0_coverOfAll_10 : decode cX0_coverOfAll 10 = .ok (.iload_n 1, 1) := by decide +kernel
theorem dX0_coverOfAll_11 : decode cX0_coverOfAll 11 = .ok (.aload_n 0, 1) := by decide +kernel
theorem dX0_coverOfAll_12 : decode cX0_coverOfAll 12 = .ok (.iload_n 2, 1) := by decide +kernel
theorem dX0_coverOfAll_13 : decode cX0_coverOfAll 13 = .ok (.invokevirtual 94, 3) := by decide +kernel
theorem dX0_coverOfAll_16 : decode cX0_coverOfAll 16 = .ok (.iadd, 1) := by decide +kernel
theorem dX0_coverOfAll_17 : decode cX0_coverOfAll 17 = .ok (.istore_n 1, 1) := by decide +kernel
theorem dX0_coverOfAll_18 : decode cX0_coverOfAll 18 = .ok (.iinc 2 1, 3) := by decide +kernel
theorem dX0_coverOfAll_21 : decode cX0_coverOfAll 21 = .ok (.goto (-17), 3) := by decide +kernel
theorem dX0_coverOfAll_24 : decode cX0_coverOfAll 24 = .ok (.iload_n 1, 1) := by decide +kernel
theorem dX0_coverOfAll_25 : decode cX0_coverOfAll 25 = .ok (.ireturn, 1) := by decide +kernel
theorem dX0_countCalled_0 : decode cX0_countCalled 0 = .ok (.iconst 0, 1) := by decide +kernel
theorem dX0_countCalled_1 : decode cX0_countCalled 1 = .ok (.istore_n 1, 1) := by decide +kernel
theorem dX0_countCalled_2 : decode cX0_countCalled 2 = .ok (.iconst 0, 1) := by decide +kernel
theorem dX0_countCalled_3 : decode cX0_countCalled 3 = .ok (.istore_n 2, 1) := by decide +kernel
theorem dX0_countCalled_4 : decode cX0_countCalled 4 = .ok (.iload_n 2, 1) := by decide +kernel
theorem dX0_countCalled_5 : decode cX0_countCalled 5 = .ok (.bipush 8, 2) := by decide +kernel
theorem dX0_countCalled_7 : decode cX0_countCalled 7 = .ok (.if_icmp .ge 26, 3) := by decide +kernel
theorem dX0_countCalled_10 : decode cX0_countCalled 10 = .ok (.iload_n 1, 1) := by decide +kernel
theorem dX0_countCalled_11 : decode cX0_countCalled 11 = .ok (.aload_n 0, 1) := by decide +kernel
theorem dX0_countCalled_12 : decode cX0_countCalled 12 = .ok (.getfield 30, 3) := by decide +kernel
theorem dX0_countCalled_15 : decode cX0_countCalled 15 = .ok (.iload_n 2, 1) := by decide +kernel
theorem dX0_countCalled_16 : decode cX0_countCalled 16 = .ok (.iaload, 1) := by decide +kernel
theorem dX0_countCalled_17 : decode cX0_countCalled 17 = .ok (.ifCond .le 7, 3) := by decide +kernel
theorem dX0_countCalled_20 : decode cX0_countCalled 20 = .ok (.iconst 1, 1) := by decide +kernel
theorem dX0_countCalled_21 : decode cX0_countCalled 21 = .ok (.goto 4, 3) := by decide +kernel
theorem dX0_countCalled_24 : decode cX0_countCalled 24 = .ok (.iconst 0, 1) := by decide +kernel
theorem dX0_countCalled_25 : decode cX0_countCalled 25 = .ok (.iadd, 1) := by decide +kernel
theorem dX0_countCalled_26 : decode cX0_countCalled 26 = .ok (.istore_n 1, 1) := by decide +kernel
theorem dX0_countCalled_27 : decode cX0_countCalled 27 = .ok (.iinc 2 1, 3) := by decide +kernel
theorem dX0_countCalled_30 : decode cX0_countCalled 30 = .ok (.goto (-26), 3) := by decide +kernel
theorem dX0_countCalled_33 : decode cX0_countCalled 33 = .ok (.iload_n 1, 1) := by decide +kernel
theorem dX0_countCalled_34 : decode cX0_countCalled 34 = .ok (.ireturn, 1) := by decide +kernel
theorem dX0_countUncoveredAfterFall_0 : decode cX0_countUncoveredAfterFall 0 = .ok (.iconst 0, 1) := by decide +kernel
theorem dX0_countUncoveredAfterFall_1 : decode cX0_countUncoveredAfterFall 1 = .ok (.istore_n 2, 1) := by decide +kernel
theorem dX0_countUncoveredAfterFall_2 : decode cX0_countUncoveredAfterFall 2 = .ok (.iconst 0, 1) := by decide +kernel
theorem dX0_countUncoveredAfterFall_3 : decode cX0_countUncoveredAfterFall 3 = .ok (.istore_n 3, 1) := by decide +kernel
theorem dX0_countUncoveredAfterFall_4 : decode cX0_countUncoveredAfterFall 4 = .ok (.iload_n 3, 1) := by decide +kernel
theorem dX0_countUncoveredAfterFall_5 : decode cX0_countUncoveredAfterFall 5 = .ok (.bipush 8, 2) := by decide +kernel
theorem dX0_countUncoveredAfterFall_7 : decode cX0_countUncoveredAfterFall 7 = .ok (.if_icmp .ge 27, 3) := by decide +kernel
theorem dX0_countUncoveredAfterFall_10 : decode cX0_countUncoveredAfterFall 10 = .ok (.iload_n 2, 1) := by decide +kernel
theorem dX0_countUncoveredAfterFall_11 : decode cX0_countUncoveredAfterFall 11 = .ok (.aload_n 0, 1) := by decide +kernel
theorem dX0_countUncoveredAfterFall_12 : decode cX0_countUncoveredAfterFall 12 = .ok (.iload_n 3, 1) := by decide +kernel
theorem dX0_countUncoveredAfterFall_13 : decode cX0_countUncoveredAfterFall 13 = .ok (.iload_n 1, 1) := by decide +kernel
theorem dX0_countUncoveredAfterFall_14 : decode cX0_countUncoveredAfterFall 14 = .ok (.iconst 1, 1) := by decide +kernel
theorem dX0_countUncoveredAfterFall_15 : decode cX0_countUncoveredAfterFall 15 = .ok (.invokevirtual 102, 3) := by decide +kernel
theorem dX0_countUncoveredAfterFall_18 : decode cX0_countUncoveredAfterFall 18 = .ok (.ifCond .eq 7, 3) := by decide +kernel
theorem dX0_countUncoveredAfterFall_21 : decode cX0_countUncoveredAfterFall 21 = .ok (.iconst 0, 1) := by decide +kernel
theorem dX0_countUncoveredAfterFall_22 : decode cX0_countUncoveredAfterFall 22 = .ok (.goto 4, 3) := by decide +kernel
theorem dX0_countUncoveredAfterFall_25 : decode cX0_countUncoveredAfterFall 25 = .ok (.iconst 1, 1) := by decide +kernel
theorem dX0_countUncoveredAfterFall_26 : decode cX0_countUncoveredAfterFall 26 = .ok (.iadd, 1) := by decide +kernel
theorem dX0_countUncoveredAfterFall_27 : decode cX0_countUncoveredAfterFall 27 = .ok (.istore_n 2, 1) := by decide +kernel
theorem dX0_countUncoveredAfterFall_28 : decode cX0_countUncoveredAfterFall 28 = .ok (.iinc 3 1, 3) := by decide +kernel
theorem dX0_countUncoveredAfterFall_31 : decode cX0_countUncoveredAfterFall 31 = .ok (.goto (-27), 3) := by decide +kernel
theorem dX0_countUncoveredAfterFall_34 : decode cX0_countUncoveredAfterFall 34 = .ok (.iload_n 2, 1) := by decide +kernel
theorem dX0_countUncoveredAfterFall_35 : decode cX0_countUncoveredAfterFall 35 = .ok (.ireturn, 1) := by decide +kernel
theorem dX0_callingFallByTrying_0 : decode cX0_callingFallByTrying 0 = .ok (.aload_n 0, 1) := by decide +kernel
theorem dX0_callingFallByTrying_1 : decode cX0_callingFallByTrying 1 = .ok (.getfield 30, 3) := by decide +kernel
theorem dX0_callingFallByTrying_4 : decode cX0_callingFallByTrying 4 = .ok (.iload_n 1, 1) := by decide +kernel
theorem dX0_callingFallByTrying_5 : decode cX0_callingFallByTrying 5 = .ok (.iaload, 1) := by decide +kernel
theorem dX0_callingFallByTrying_6 : decode cX0_callingFallByTrying 6 = .ok (.ifCond .le 5, 3) := by decide +kernel
theorem dX0_callingFallByTrying_9 : decode cX0_callingFallByTrying 9 = .ok (.iconst 0, 1) := by decide +kernel
theorem dX0_callingFallByTrying_10 : decode cX0_callingFallByTrying 10 = .ok (.ireturn, 1) := by decide +kernel
theorem dX0_callingFallByTrying_11 : decode cX0_callingFallByTrying 11 = .ok (.iconst 1, 1) := by decide +kernel
theorem dX0_callingFallByTrying_12 : decode cX0_callingFallByTrying 12 = .ok (.istore_n 2, 1) := by decide +kernel
theorem dX0_callingFallByTrying_13 : decode cX0_callingFallByTrying 13 = .ok (.iload_n 2, 1) := by decide +kernel
theorem dX0_callingFallByTrying_14 : decode cX0_callingFallByTrying 14 = .ok (.bipush 100, 2) := by decide +kernel
theorem dX0_callingFallByTrying_16 : decode cX0_callingFallByTrying 16 = .ok (.if_icmp .gt 21, 3) := by decide +kernel
theorem dX0_callingFallByTrying_19 : decode cX0_callingFallByTrying 19 = .ok (.aload_n 0, 1) := by decide +kernel
theorem dX0_callingFallByTrying_20 : decode cX0_callingFallByTrying 20 = .ok (.iload_n 1, 1) := by decide +kernel
theorem dX0_callingFallByTrying_21 : decode cX0_callingFallByTrying 21 = .ok (.iload_n 2, 1) := by decide +kernel
theorem dX0_callingFallByTrying_22 : decode cX0_callingFallByTrying 22 = .ok (.iconst 0, 1) := by decide +kernel
theorem dX0_callingFallByTrying_23 : decode cX0_callingFallByTrying 23 = .ok (.invokevirtual 102, 3) := by decide +kernel
theorem dX0_callingFallByTrying_26 : decode cX0_callingFallByTrying 26 = .ok (.ifCond .ne 5, 3) := by decide +kernel
theorem dX0_callingFallByTrying_29 : decode cX0_callingFallByTrying 29 = .ok (.iload_n 2, 1) := by decide +kernel
theorem dX0_callingFallByTrying_30 : decode cX0_callingFallByTrying 30 = .ok (.ireturn, 1) := by decide +kernel
theorem dX0_callingFallByTrying_31 : decode cX0_callingFallByTrying 31 = .ok (.iinc 2 1, 3) := by decide +kernel
theorem dX0_callingFallByTrying_34 : decode cX0_callingFallByTrying 34 = .ok (.goto (-21), 3) := by decide +kernel
theorem dX0_callingFallByTrying_37 : decode cX0_callingFallByTrying 37 = .ok (.iconst (-1), 1) := by decide +kernel
theorem dX0_callingFallByTrying_38 : decode cX0_callingFallByTrying 38 = .ok (.ireturn, 1) := by decide +kernel
theorem dX0_callingFallByHalving_0 : decode cX0_callingFallByHalving 0 = .ok (.aload_n 0, 1) := by decide +kernel
theorem dX0_callingFallByHalving_1 : decode cX0_callingFallByHalving 1 = .ok (.getfield 30, 3) := by decide +kernel
theorem dX0_callingFallByHalving_4 : decode cX0_callingFallByHalving 4 = .ok (.iload_n 1, 1) := by decide +kernel
theorem dX0_callingFallByHalving_5 : decode cX0_callingFallByHalving 5 = .ok (.iaload, 1) := by decide +kernel
theorem dX0_callingFallByHalving_6 : decode cX0_callingFallByHalving 6 = .ok (.ifCond .le 5, 3) := by decide +kernel
theorem dX0_callingFallByHalving_9 : decode cX0_callingFallByHalving 9 = .ok (.iconst 0, 1) := by decide +kernel
theorem dX0_callingFallByHalving_10 : decode cX0_callingFallByHalving 10 = .ok (.ireturn, 1) := by decide +kernel
theorem dX0_callingFallByHalving_11 : decode cX0_callingFallByHalving 11 = .ok (.aload_n 0, 1) := by decide +kernel
theorem dX0_callingFallByHalving_12 : decode cX0_callingFallByHalving 12 = .ok (.iload_n 1, 1) := by decide +kernel
theorem dX0_callingFallByHalving_13 : decode cX0_callingFallByHalving 13 = .ok (.bipush 100, 2) := by decide +kernel
theorem dX0_callingFallByHalving_15 : decode cX0_callingFallByHalving 15 = .ok (.iconst 0, 1) := by decide +kernel
theorem dX0_callingFallByHalving_16 : decode cX0_callingFallByHalving 16 = .ok (.invokevirtual 102, 3) := by decide +kernel
theorem dX0_callingFallByHalving_19 : decode cX0_callingFallByHalving 19 = .ok (.ifCond .eq 5, 3) := by decide +kernel
theorem dX0_callingFallByHalving_22 : decode cX0_callingFallByHalving 22 = .ok (.iconst (-1), 1) := by decide +kernel
theorem dX0_callingFallByHalving_23 : decode cX0_callingFallByHalving 23 = .ok (.ireturn, 1) := by decide +kernel
theorem dX0_callingFallByHalving_24 : decode cX0_callingFallByHalving 24 = .ok (.iconst 0, 1) := by decide +kernel
theorem dX0_callingFallByHalving_25 : decode cX0_callingFallByHalving 25 = .ok (.istore_n 2, 1) := by decide +kernel
theorem dX0_callingFallByHalving_26 : decode cX0_callingFallByHalving 26 = .ok (.bipush 100, 2) := by decide +kernel
theorem dX0_callingFallByHalving_28 : decode cX0_callingFallByHalving 28 = .ok (.istore_n 3, 1) := by decide +kernel
theorem dX0_callingFallByHalving_29 : decode cX0_callingFallByHalving 29 = .ok (.iconst 0, 1) := by decide +kernel
theorem dX0_callingFallByHalving_30 : decode cX0_callingFallByHalving 30 = .ok (.istore 4, 2) := by decide +kernel
theorem dX0_callingFallByHalving_32 : decode cX0_callingFallByHalving 32 = .ok (.iload 4, 2) := by decide +kernel
theorem dX0_callingFallByHalving_34 : decode cX0_callingFallByHalving 34 = .ok (.bipush 100, 2) := by decide +kernel
theorem dX0_callingFallByHalving_36 : decode cX0_callingFallByHalving 36 = .ok (.if_icmp .ge 43, 3) := by decide +kernel
theorem dX0_callingFallByHalving_39 : decode cX0_callingFallByHalving 39 = .ok (.iload_n 3, 1) := by decide +kernel
theorem dX0_callingFallByHalving_40 : decode cX0_callingFallByHalving 40 = .ok (.iload_n 2, 1) := by decide +kernel
theorem dX0_callingFallByHalving_41 : decode cX0_callingFallByHalving 41 = .ok (.isub, 1) := by decide +kernel
theorem dX0_callingFallByHalving_42 : decode cX0_callingFallByHalving 42 = .ok (.iconst 1, 1) := by decide +kernel
theorem dX0_callingFallByHalving_43 : decode cX0_callingFallByHalving 43 = .ok (.if_icmp .le 36, 3) := by decide +kernel
theorem dX0_callingFallByHalving_46 : decode cX0_callingFallByHalving 46 = .ok (.iload_n 2, 1) := by decide +kernel
theorem dX0_callingFallByHalving_47 : decode cX0_callingFallByHalving 47 = .ok (.iload_n 3, 1) := by decide +kernel
theorem dX0_callingFallByHalving_48 : decode cX0_callingFallByHalving 48 = .ok (.iadd, 1) := by decide +kernel
theorem dX0_callingFallByHalving_49 : decode cX0_callingFallByHalving 49 = .ok (.iconst 2, 1) := by decide +kernel
theorem dX0_callingFallByHalving_50 : decode cX0_callingFallByHalving 50 = .ok (.idiv, 1) := by decide +kernel
theorem dX0_callingFallByHalving_51 : decode cX0_callingFallByHalving 51 = .ok (.istore 5, 2) := by decide +kernel
theorem dX0_callingFallByHalving_53 : decode cX0_callingFallByHalving 53 = .ok (.aload_n 0, 1) := by decide +kernel
theorem dX0_callingFallByHalving_54 : decode cX0_callingFallByHalving 54 = .ok (.iload_n 1, 1) := by decide +kernel
theorem dX0_callingFallByHalving_55 : decode cX0_callingFallByHalving 55 = .ok (.iload 5, 2) := by decide +kernel
theorem dX0_callingFallByHalving_57 : decode cX0_callingFallByHalving 57 = .ok (.iconst 0, 1) := by decide +kernel
theorem dX0_callingFallByHalving_58 : decode cX0_callingFallByHalving 58 = .ok (.invokevirtual 102, 3) := by decide +kernel
theorem dX0_callingFallByHalving_61 : decode cX0_callingFallByHalving 61 = .ok (.ifCond .eq 9, 3) := by decide +kernel
theorem dX0_callingFallByHalving_64 : decode cX0_callingFallByHalving 64 = .ok (.iload 5, 2) := by decide +kernel
theorem dX0_callingFallByHalving_66 : decode cX0_callingFallByHalving 66 = .ok (.istore_n 2, 1) := by decide +kernel
theorem dX0_callingFallByHalving_67 : decode cX0_callingFallByHalving 67 = .ok (.goto 6, 3) := by decide +kernel
theorem dX0_callingFallByHalving_70 : decode cX0_callingFallByHalving 70 = .ok (.iload 5, 2) := by decide +kernel
theorem dX0_callingFallByHalving_72 : decode cX0_callingFallByHalving 72 = .ok (.istore_n 3, 1) := by decide +kernel
theorem dX0_callingFallByHalving_73 : decode cX0_callingFallByHalving 73 = .ok (.iinc 4 1, 3) := by decide +kernel
theorem dX0_callingFallByHalving_76 : decode cX0_callingFallByHalving 76 = .ok (.goto (-44), 3) := by decide +kernel
theorem dX0_callingFallByHalving_79 : decode cX0_callingFallByHalving 79 = .ok (.iload_n 3, 1) := by decide +kernel
theorem dX0_callingFallByHalving_80 : decode cX0_callingFallByHalving 80 = .ok (.ireturn, 1) := by decide +kernel
theorem dX0_hoursUntilCall_0 : decode cX0_hoursUntilCall 0 = .ok (.aload_n 0, 1) := by decide +kernel
theorem dX0_hoursUntilCall_1 : decode cX0_hoursUntilCall 1 = .ok (.getfield 30, 3) := by decide +kernel
theorem dX0_hoursUntilCall_4 : decode cX0_hoursUntilCall 4 = .ok (.iload_n 1, 1) := by decide +kernel
theorem dX0_hoursUntilCall_5 : decode cX0_hoursUntilCall 5 = .ok (.iaload, 1) := by decide +kernel
theorem dX0_hoursUntilCall_6 : decode cX0_hoursUntilCall 6 = .ok (.ifCond .le 5, 3) := by decide +kernel
theorem dX0_hoursUntilCall_9 : decode cX0_hoursUntilCall 9 = .ok (.iconst 0, 1) := by decide +kernel
theorem dX0_hoursUntilCall_10 : decode cX0_hoursUntilCall 10 = .ok (.ireturn, 1) := by decide +kernel
theorem dX0_hoursUntilCall_11 : decode cX0_hoursUntilCall 11 = .ok (.aload_n 0, 1) := by decide +kernel
theorem dX0_hoursUntilCall_12 : decode cX0_hoursUntilCall 12 = .ok (.iload_n 1, 1) := by decide +kernel
theorem dX0_hoursUntilCall_13 : decode cX0_hoursUntilCall 13 = .ok (.invokevirtual 94, 3) := by decide +kernel
theorem dX0_hoursUntilCall_16 : decode cX0_hoursUntilCall 16 = .ok (.istore_n 2, 1) := by decide +kernel
theorem dX0_hoursUntilCall_17 : decode cX0_hoursUntilCall 17 = .ok (.aload_n 0, 1) := by decide +kernel
theorem dX0_hoursUntilCall_18 : decode cX0_hoursUntilCall 18 = .ok (.getfield 27, 3) := by decide +kernel
theorem dX0_hoursUntilCall_21 : decode cX0_hoursUntilCall 21 = .ok (.iload_n 1, 1) := by decide +kernel
theorem dX0_hoursUntilCall_22 : decode cX0_hoursUntilCall 22 = .ok (.iaload, 1) := by decide +kernel
theorem dX0_hoursUntilCall_23 : decode cX0_hoursUntilCall 23 = .ok (.istore_n 3, 1) := by decide +kernel
theorem dX0_hoursUntilCall_24 : decode cX0_hoursUntilCall 24 = .ok (.iconst 1, 1) := by decide +kernel
theorem dX0_hoursUntilCall_25 : decode cX0_hoursUntilCall 25 = .ok (.istore 4, 2) := by decide +kernel
theorem dX0_hoursUntilCall_27 : decode cX0_hoursUntilCall 27 = .ok (.iload 4, 2) := by decide +kernel
theorem dX0_hoursUntilCall_29 : decode cX0_hoursUntilCall 29 = .ok (.sipush 999, 3) := by decide +kernel
theorem dX0_hoursUntilCall_32 : decode cX0_hoursUntilCall 32 = .ok (.if_icmp .gt 25, 3) := by decide +kernel
theorem dX0_hoursUntilCall_35 : decode cX0_hoursUntilCall 35 = .ok (.iload_n 3, 1) := by decide +kernel
theorem dX0_hoursUntilCall_36 : decode cX0_hoursUntilCall 36 = .ok (.aload_n 0, 1) := by decide +kernel
theorem dX0_hoursUntilCall_37 : decode cX0_hoursUntilCall 37 = .ok (.iload_n 3, 1) := by decide +kernel
theorem dX0_hoursUntilCall_38 : decode cX0_hoursUntilCall 38 = .ok (.invokevirtual 106, 3) := by decide +kernel
theorem dX0_hoursUntilCall_41 : decode cX0_hoursUntilCall 41 = .ok (.iadd, 1) := by decide +kernel
theorem dX0_hoursUntilCall_42 : decode cX0_hoursUntilCall 42 = .ok (.istore_n 3, 1) := by decide +kernel
theorem dX0_hoursUntilCall_43 : decode cX0_hoursUntilCall 43 = .ok (.iload_n 3, 1) := by decide +kernel
theorem dX0_hoursUntilCall_44 : decode cX0_hoursUntilCall 44 = .ok (.iload_n 2, 1) := by decide +kernel
theorem dX0_hoursUntilCall_45 : decode cX0_hoursUntilCall 45 = .ok (.if_icmp .le 6, 3) := by decide +kernel
theorem dX0_hoursUntilCall_48 : decode cX0_hoursUntilCall 48 = .ok (.iload 4, 2) := by decide +kernel
theorem dX0_hoursUntilCall_50 : decode cX0_hoursUntilCall 50 = .ok (.ireturn, 1) := by decide +kernel
theorem dX0_hoursUntilCall_51 : decode cX0_hoursUntilCall 51 = .ok (.iinc 4 1, 3) := by decide +kernel
theorem dX0_hoursUntilCall_54 : decode cX0_hoursUntilCall 54 = .ok (.goto (-27), 3) := by decide +kernel
theorem dX0_hoursUntilCall_57 : decode cX0_hoursUntilCall 57 = .ok (.iconst (-1), 1) := by decide +kernel
theorem dX0_hoursUntilCall_58 : decode cX0_hoursUntilCall 58 = .ok (.ireturn, 1) := by decide +kernel
theorem dX0_isRiskier_0 : decode cX0_isRiskier 0 = .ok (.aload_n 0, 1) := by decide +kernel
theorem dX0_isRiskier_1 : decode cX0_isRiskier 1 = .ok (.getfield 27, 3) := by decide +kernel
theorem dX0_isRiskier_4 : decode cX0_isRiskier 4 = .ok (.iload_n 1, 1) := by decide +kernel
theorem dX0_isRiskier_5 : decode cX0_isRiskier 5 = .ok (.iaload, 1) := by decide +kernel
theorem dX0_isRiskier_6 : decode cX0_isRiskier 6 = .ok (.istore_n 3, 1) := by decide +kernel
theorem dX0_isRiskier_7 : decode cX0_isRiskier 7 = .ok (.aload_n 0, 1) := by decide +kernel
theorem dX0_isRiskier_8 : decode cX0_isRiskier 8 = .ok (.getfield 27, 3) := by decide +kernel
theorem dX0_isRiskier_11 : decode cX0_isRiskier 11 = .ok (.iload_n 2, 1) := by decide +kernel
theorem dX0_isRiskier_12 : decode cX0_isRiskier 12 = .ok (.iaload, 1) := by decide +kernel
theorem dX0_isRiskier_13 : decode cX0_isRiskier 13 = .ok (.istore 4, 2) := by decide +kernel
theorem dX0_isRiskier_15 : decode cX0_isRiskier 15 = .ok (.iload_n 3, 1) := by decide +kernel
theorem dX0_isRiskier_16 : decode cX0_isRiskier 16 = .ok (.ifCond .eq 8, 3) := by decide +kernel
theorem dX0_isRiskier_19 : decode cX0_isRiskier 19 = .ok (.iload 4, 2) := by decide +kernel
theorem dX0_isRiskier_21 : decode cX0_isRiskier 21 = .ok (.ifCond .ne 32, 3) := by decide +kernel
theorem dX0_isRiskier_24 : decode cX0_isRiskier 24 = .ok (.iload_n 3, 1) := by decide +kernel
theorem dX0_isRiskier_25 : decode cX0_isRiskier 25 = .ok (.iload 4, 2) := by decide +kernel
theorem dX0_isRiskier_27 : decode cX0_isRiskier 27 = .ok (.if_icmp .eq 15, 3) := by decide +kernel
theorem dX0_isRiskier_30 : decode cX0_isRiskier 30 = .ok (.iload_n 3, 1) := by decide +kernel
theorem dX0_isRiskier_31 : decode cX0_isRiskier 31 = .ok (.ifCond .le 7, 3) := by decide +kernel
theorem dX0_isRiskier_34 : decode cX0_isRiskier 34 = .ok (.iconst 1, 1) := by decide +kernel
theorem dX0_isRiskier_35 : decode cX0_isRiskier 35 = .ok (.goto 17, 3) := by decide +kernel
theorem dX0_isRiskier_38 : decode cX0_isRiskier 38 = .ok (.iconst 0, 1) := by decide +kernel
theorem dX0_isRiskier_39 : decode cX0_isRiskier 39 = .ok (.goto 13, 3) := by decide +kernel
theorem dX0_isRiskier_42 : decode cX0_isRiskier 42 = .ok (.iload_n 1, 1) := by decide +kernel
theorem dX0_isRiskier_43 : decode cX0_isRiskier 43 = .ok (.iload_n 2, 1) := by decide +kernel
theorem dX0_isRiskier_44 : decode cX0_isRiskier 44 = .ok (.if_icmp .ge 7, 3) := by decide +kernel
theorem dX0_isRiskier_47 : decode cX0_isRiskier 47 = .ok (.iconst 1, 1) := by decide +kernel
theorem dX0_isRiskier_48 : decode cX0_isRiskier 48 = .ok (.goto 4, 3) := by decide +kernel
theorem dX0_isRiskier_51 : decode cX0_isRiskier 51 = .ok (.iconst 0, 1) := by decide +kernel
theorem dX0_isRiskier_52 : decode cX0_isRiskier 52 = .ok (.ireturn, 1) := by decide +kernel
theorem dX0_isRiskier_53 : decode cX0_isRiskier 53 = .ok (.aload_n 0, 1) := by decide +kernel
theorem dX0_isRiskier_54 : decode cX0_isRiskier 54 = .ok (.iload_n 1, 1) := by decide +kernel
theorem dX0_isRiskier_55 : decode cX0_isRiskier 55 = .ok (.invokevirtual 94, 3) := by decide +kernel
theorem dX0_isRiskier_58 : decode cX0_isRiskier 58 = .ok (.i2l, 1) := by decide +kernel
theorem dX0_isRiskier_59 : decode cX0_isRiskier 59 = .ok (.iload 4, 2) := by decide +kernel
theorem dX0_isRiskier_61 : decode cX0_isRiskier 61 = .ok (.i2l, 1) := by decide +kernel
theorem dX0_isRiskier_62 : decode cX0_isRiskier 62 = .ok (.lmul, 1) := by decide +kernel
theorem dX0_isRiskier_63 : decode cX0_isRiskier 63 = .ok (.lstore 5, 2) := by decide +kernel
theorem dX0_isRiskier_65 : decode cX0_isRiskier 65 = .ok (.aload_n 0, 1) := by decide +kernel
theorem dX0_isRiskier_66 : decode cX0_isRiskier 66 = .ok (.iload_n 2, 1) := by decide +kernel
theorem dX0_isRiskier_67 : decode cX0_isRiskier 67 = .ok (.invokevirtual 94, 3) := by decide +kernel
theorem dX0_isRiskier_70 : decode cX0_isRiskier 70 = .ok (.i2l, 1) := by decide +kernel
theorem dX0_isRiskier_71 : decode cX0_isRiskier 71 = .ok (.iload_n 3, 1) := by decide +kernel
theorem dX0_isRiskier_72 : decode cX0_isRiskier 72 = .ok (.i2l, 1) := by decide +kernel
theorem dX0_isRiskier_73 : decode cX0_isRiskier 73 = .ok (.lmul, 1) := by decide +kernel
theorem dX0_isRiskier_74 : decode cX0_isRiskier 74 = .ok (.lstore 7, 2) := by decide +kernel
theorem dX0_isRiskier_76 : decode cX0_isRiskier 76 = .ok (.lload 5, 2) := by decide +kernel
theorem dX0_isRiskier_78 : decode cX0_isRiskier 78 = .ok (.lload 7, 2) := by decide +kernel
theorem dX0_isRiskier_80 : decode cX0_isRiskier 80 = .ok (.lcmp, 1) := by decide +kernel
theorem dX0_isRiskier_81 : decode cX0_isRiskier 81 = .ok (.ifCond .eq 19, 3) := by decide +kernel
theorem dX0_isRiskier_84 : decode cX0_isRiskier 84 = .ok (.lload 5, 2) := by decide +kernel
theorem dX0_isRiskier_86 : decode cX0_isRiskier 86 = .ok (.lload 7, 2) := by decide +kernel
theorem dX0_isRiskier_88 : decode cX0_isRiskier 88 = .ok (.lcmp, 1) := by decide +kernel
theorem dX0_isRiskier_89 : decode cX0_isRiskier 89 = .ok (.ifCond .ge 7, 3) := by decide +kernel
theorem dX0_isRiskier_92 : decode cX0_isRiskier 92 = .ok (.iconst 1, 1) := by decide +kernel
theorem dX0_isRiskier_93 : decode cX0_isRiskier 93 = .ok (.goto 17, 3) := by decide +kernel
theorem dX0_isRiskier_96 : decode cX0_isRiskier 96 = .ok (.iconst 0, 1) := by decide +kernel
theorem dX0_isRiskier_97 : decode cX0_isRiskier 97 = .ok (.goto 13, 3) := by decide +kernel
theorem dX0_isRiskier_100 : decode cX0_isRiskier 100 = .ok (.iload_n 1, 1) := by decide +kernel
theorem dX0_isRiskier_101 : decode cX0_isRiskier 101 = .ok (.iload_n 2, 1) := by decide +kernel
theorem dX0_isRiskier_102 : decode cX0_isRiskier 102 = .ok (.if_icmp .ge 7, 3) := by decide +kernel
theorem dX0_isRiskier_105 : decode cX0_isRiskier 105 = .ok (.iconst 1, 1) := by decide +kernel
theorem dX0_isRiskier_106 : decode cX0_isRiskier 106 = .ok (.goto 4, 3) := by decide +kernel
theorem dX0_isRiskier_109 : decode cX0_isRiskier 109 = .ok (.iconst 0, 1) := by decide +kernel
theorem dX0_isRiskier_110 : decode cX0_isRiskier 110 = .ok (.ireturn, 1) := by decide +kernel
theorem dX0_riskPlace_0 : decode cX0_riskPlace 0 = .ok (.iconst 0, 1) := by decide +kernel
theorem dX0_riskPlace_1 : decode cX0_riskPlace 1 = .ok (.istore_n 2, 1) := by decide +kernel
theorem dX0_riskPlace_2 : decode cX0_riskPlace 2 = .ok (.iconst 0, 1) := by decide +kernel
theorem dX0_riskPlace_3 : decode cX0_riskPlace 3 = .ok (.istore_n 3, 1) := by decide +kernel
theorem dX0_riskPlace_4 : decode cX0_riskPlace 4 = .ok (.iload_n 3, 1) := by decide +kernel
theorem dX0_riskPlace_5 : decode cX0_riskPlace 5 = .ok (.bipush 8, 2) := by decide +kernel
theorem dX0_riskPlace_7 : decode cX0_riskPlace 7 = .ok (.if_icmp .ge 26, 3) := by decide +kernel
theorem dX0_riskPlace_10 : decode cX0_riskPlace 10 = .ok (.iload_n 3, 1) := by decide +kernel
theorem dX0_riskPlace_11 : decode cX0_riskPlace 11 = .ok (.iload_n 1, 1) := by decide +kernel
theorem dX0_riskPlace_12 : decode cX0_riskPlace 12 = .ok (.if_icmp .eq 15, 3) := by decide +kernel
theorem dX0_riskPlace_15 : decode cX0_riskPlace 15 = .ok (.aload_n 0, 1) := by decide +kernel
theorem dX0_riskPlace_16 : decode cX0_riskPlace 16 = .ok (.iload_n 3, 1) := by decide +kernel
theorem dX0_riskPlace_17 : decode cX0_riskPlace 17 = .ok (.iload_n 1, 1) := by decide +kernel
theorem dX0_riskPlace_18 : decode cX0_riskPlace 18 = .ok (.invokevirtual 109, 3) := by decide +kernel
theorem dX0_riskPlace_21 : decode cX0_riskPlace 21 = .ok (.ifCond .eq 6, 3) := by decide +kernel
theorem dX0_riskPlace_24 : decode cX0_riskPlace 24 = .ok (.iinc 2 1, 3) := by decide +kernel
theorem dX0_riskPlace_27 : decode cX0_riskPlace 27 = .ok (.iinc 3 1, 3) := by decide +kernel
theorem dX0_riskPlace_30 : decode cX0_riskPlace 30 = .ok (.goto (-26), 3) := by decide +kernel
theorem dX0_riskPlace_33 : decode cX0_riskPlace 33 = .ok (.iload_n 2, 1) := by decide +kernel
theorem dX0_riskPlace_34 : decode cX0_riskPlace 34 = .ok (.ireturn, 1) := by decide +kernel
theorem dX0_sortByRisk_0 : decode cX0_sortByRisk 0 = .ok (.iconst 0, 1) := by decide +kernel
theorem dX0_sortByRisk_1 : decode cX0_sortByRisk 1 = .ok (.istore_n 2, 1) := by decide +kernel
theorem dX0_sortByRisk_2 : decode cX0_sortByRisk 2 = .ok (.iload_n 2, 1) := by decide +kernel
theorem dX0_sortByRisk_3 : decode cX0_sortByRisk 3 = .ok (.bipush 8, 2) := by decide +kernel
theorem dX0_sortByRisk_5 : decode cX0_sortByRisk 5 = .ok (.if_icmp .ge 46, 3) := by decide +kernel
theorem dX0_sortByRisk_8 : decode cX0_sortByRisk 8 = .ok (.iload_n 2, 1) := by decide +kernel
theorem dX0_sortByRisk_9 : decode cX0_sortByRisk 9 = .ok (.istore_n 3, 1) := by decide +kernel
theorem dX0_sortByRisk_10 : decode cX0_sortByRisk 10 = .ok (.iload_n 3, 1) := by decide +kernel
theorem dX0_sortByRisk_11 : decode cX0_sortByRisk 11 = .ok (.ifCond .le 30, 3) := by decide +kernel
theorem dX0_sortByRisk_14 : decode cX0_sortByRisk 14 = .ok (.aload_n 0, 1) := by decide +kernel
theorem dX0_sortByRisk_15 : decode cX0_sortByRisk 15 = .ok (.iload_n 2, 1) := by decide +kernel
theorem dX0_sortByRisk_16 : decode cX0_sortByRisk 16 = .ok (.aload_n 1, 1) := by decide +kernel
theorem dX0_sortByRisk_17 : decode cX0_sortByRisk 17 = .ok (.iload_n 3, 1) := by decide +kernel
theorem dX0_sortByRisk_18 : decode cX0_sortByRisk 18 = .ok (.iconst 1, 1) := by decide +kernel
theorem dX0_sortByRisk_19 : decode cX0_sortByRisk 19 = .ok (.isub, 1) := by decide +kernel
theorem dX0_sortByRisk_20 : decode cX0_sortByRisk 20 = .ok (.iaload, 1) := by decide +kernel
theorem dX0_sortByRisk_21 : decode cX0_sortByRisk 21 = .ok (.invokevirtual 109, 3) := by decide +kernel
theorem dX0_sortByRisk_24 : decode cX0_sortByRisk 24 = .ok (.ifCond .eq 17, 3) := by decide +kernel
theorem dX0_sortByRisk_27 : decode cX0_sortByRisk 27 = .ok (.aload_n 1, 1) := by decide +kernel
theorem dX0_sortByRisk_28 : decode cX0_sortByRisk 28 = .ok (.iload_n 3, 1) := by decide +kernel
theorem dX0_sortByRisk_29 : decode cX0_sortByRisk 29 = .ok (.aload_n 1, 1) := by decide +kernel
theorem dX0_sortByRisk_30 : decode cX0_sortByRisk 30 = .ok (.iload_n 3, 1) := by decide +kernel
theorem dX0_sortByRisk_31 : decode cX0_sortByRisk 31 = .ok (.iconst 1, 1) := by decide +kernel
theorem dX0_sortByRisk_32 : decode cX0_sortByRisk 32 = .ok (.isub, 1) := by decide +kernel
theorem dX0_sortByRisk_33 : decode cX0_sortByRisk 33 = .ok (.iaload, 1) := by decide +kernel
theorem dX0_sortByRisk_34 : decode cX0_sortByRisk 34 = .ok (.iastore, 1) := by decide +kernel
theorem dX0_sortByRisk_35 : decode cX0_sortByRisk 35 = .ok (.iinc 3 (-1), 3) := by decide +kernel
theorem dX0_sortByRisk_38 : decode cX0_sortByRisk 38 = .ok (.goto (-28), 3) := by decide +kernel
theorem dX0_sortByRisk_41 : decode cX0_sortByRisk 41 = .ok (.aload_n 1, 1) := by decide +kernel
theorem dX0_sortByRisk_42 : decode cX0_sortByRisk 42 = .ok (.iload_n 3, 1) := by decide +kernel
theorem dX0_sortByRisk_43 : decode cX0_sortByRisk 43 = .ok (.iload_n 2, 1) := by decide +kernel
theorem dX0_sortByRisk_44 : decode cX0_sortByRisk 44 = .ok (.iastore, 1) := by decide +kernel
theorem dX0_sortByRisk_45 : decode cX0_sortByRisk 45 = .ok (.iinc 2 1, 3) := by decide +kernel
theorem dX0_sortByRisk_48 : decode cX0_sortByRisk 48 = .ok (.goto (-46), 3) := by decide +kernel
theorem dX0_sortByRisk_51 : decode cX0_sortByRisk 51 = .ok (.return_, 1) := by decide +kernel
theorem dX0_takeRiskiest_0 : decode cX0_takeRiskiest 0 = .ok (.iconst 0, 1) := by decide +kernel
theorem dX0_takeRiskiest_1 : decode cX0_takeRiskiest 1 = .ok (.istore_n 2, 1) := by decide +kernel
theorem dX0_takeRiskiest_2 : decode cX0_takeRiskiest 2 = .ok (.iconst 0, 1) := by decide +kernel
theorem dX0_takeRiskiest_3 : decode cX0_takeRiskiest 3 = .ok (.istore_n 3, 1) := by decide +kernel
theorem dX0_takeRiskiest_4 : decode cX0_takeRiskiest 4 = .ok (.iconst 0, 1) := by decide +kernel
theorem dX0_takeRiskiest_5 : decode cX0_takeRiskiest 5 = .ok (.istore 4, 2) := by decide +kernel
theorem dX0_takeRiskiest_7 : decode cX0_takeRiskiest 7 = .ok (.iload 4, 2) := by decide +kernel
theorem dX0_takeRiskiest_9 : decode cX0_takeRiskiest 9 = .ok (.iload_n 1, 1) := by decide +kernel
theorem dX0_takeRiskiest_10 : decode cX0_takeRiskiest 10 = .ok (.if_icmp .gt 21, 3) := by decide +kernel
theorem dX0_takeRiskiest_13 : decode cX0_takeRiskiest 13 = .ok (.aload_n 0, 1) := by decide +kernel
theorem dX0_takeRiskiest_14 : decode cX0_takeRiskiest 14 = .ok (.iload_n 2, 1) := by decide +kernel
theorem dX0_takeRiskiest_15 : decode cX0_takeRiskiest 15 = .ok (.invokevirtual 113, 3) := by decide +kernel
theorem dX0_takeRiskiest_18 : decode cX0_takeRiskiest 18 = .ok (.istore_n 3, 1) := by decide +kernel
theorem dX0_takeRiskiest_19 : decode cX0_takeRiskiest 19 = .ok (.iload_n 2, 1) := by decide +kernel
theorem dX0_takeRiskiest_20 : decode cX0_takeRiskiest 20 = .ok (.iconst 1, 1) := by decide +kernel
theorem dX0_takeRiskiest_21 : decode cX0_takeRiskiest 21 = .ok (.iload_n 3, 1) := by decide +kernel
theorem dX0_takeRiskiest_22 : decode cX0_takeRiskiest 22 = .ok (.ishl, 1) := by decide +kernel
theorem dX0_takeRiskiest_23 : decode cX0_takeRiskiest 23 = .ok (.ior, 1) := by decide +kernel
theorem dX0_takeRiskiest_24 : decode cX0_takeRiskiest 24 = .ok (.istore_n 2, 1) := by decide +kernel
theorem dX0_takeRiskiest_25 : decode cX0_takeRiskiest 25 = .ok (.iinc 4 1, 3) := by decide +kernel
theorem dX0_takeRiskiest_28 : decode cX0_takeRiskiest 28 = .ok (.goto (-21), 3) := by decide +kernel
theorem dX0_takeRiskiest_31 : decode cX0_takeRiskiest 31 = .ok (.iload_n 3, 1) := by decide +kernel
theorem dX0_takeRiskiest_32 : decode cX0_takeRiskiest 32 = .ok (.ireturn, 1) := by decide +kernel
theorem dX0_riskiestBut_0 : decode cX0_riskiestBut 0 = .ok (.iconst (-1), 1) := by decide +kernel
theorem dX0_riskiestBut_1 : decode cX0_riskiestBut 1 = .ok (.istore_n 2, 1) := by decide +kernel
theorem dX0_riskiestBut_2 : decode cX0_riskiestBut 2 = .ok (.iconst 0, 1) := by decide +kernel
theorem dX0_riskiestBut_3 : decode cX0_riskiestBut 3 = .ok (.istore_n 3, 1) := by decide +kernel
theorem dX0_riskiestBut_4 : decode cX0_riskiestBut 4 = .ok (.iload_n 3, 1) := by decide +kernel
theorem dX0_riskiestBut_5 : decode cX0_riskiestBut 5 = .ok (.bipush 8, 2) := by decide +kernel
theorem dX0_riskiestBut_7 : decode cX0_riskiestBut 7 = .ok (.if_icmp .ge 45, 3) := by decide +kernel
theorem dX0_riskiestBut_10 : decode cX0_riskiestBut 10 = .ok (.iload_n 1, 1) := by decide +kernel
theorem dX0_riskiestBut_11 : decode cX0_riskiestBut 11 = .ok (.iload_n 3, 1) := by decide +kernel
theorem dX0_riskiestBut_12 : decode cX0_riskiestBut 12 = .ok (.ishr, 1) := by decide +kernel
theorem dX0_riskiestBut_13 : decode cX0_riskiestBut 13 = .ok (.iconst 1, 1) := by decide +kernel
theorem dX0_riskiestBut_14 : decode cX0_riskiestBut 14 = .ok (.iand, 1) := by decide +kernel
theorem dX0_riskiestBut_15 : decode cX0_riskiestBut 15 = .ok (.ifCond .ne 7, 3) := by decide +kernel
theorem dX0_riskiestBut_18 : decode cX0_riskiestBut 18 = .ok (.iconst 1, 1) := by decide +kernel
theorem dX0_riskiestBut_19 : decode cX0_riskiestBut 19 = .ok (.goto 4, 3) := by decide +kernel
theorem dX0_riskiestBut_22 : decode cX0_riskiestBut 22 = .ok (.iconst 0, 1) := by decide +kernel
theorem dX0_riskiestBut_23 : decode cX0_riskiestBut 23 = .ok (.istore 4, 2) := by decide +kernel
theorem dX0_riskiestBut_25 : decode cX0_riskiestBut 25 = .ok (.iload 4, 2) := by decide +kernel
theorem dX0_riskiestBut_27 : decode cX0_riskiestBut 27 = .ok (.ifCond .eq 19, 3) := by decide +kernel
theorem dX0_riskiestBut_30 : decode cX0_riskiestBut 30 = .ok (.iload_n 2, 1) := by decide +kernel
theorem dX0_riskiestBut_31 : decode cX0_riskiestBut 31 = .ok (.iconst (-1), 1) := by decide +kernel
theorem dX0_riskiestBut_32 : decode cX0_riskiestBut 32 = .ok (.if_icmp .eq 12, 3) := by decide +kernel
theorem dX0_riskiestBut_35 : decode cX0_riskiestBut 35 = .ok (.aload_n 0, 1) := by decide +kernel
theorem dX0_riskiestBut_36 : decode cX0_riskiestBut 36 = .ok (.iload_n 3, 1) := by decide +kernel
theorem dX0_riskiestBut_37 : decode cX0_riskiestBut 37 = .ok (.iload_n 2, 1) := by decide +kernel
theorem dX0_riskiestBut_38 : decode cX0_riskiestBut 38 = .ok (.invokevirtual 109, 3) := by decide +kernel
theorem dX0_riskiestBut_41 : decode cX0_riskiestBut 41 = .ok (.ifCond .eq 5, 3) := by decide +kernel
theorem dX0_riskiestBut_44 : decode cX0_riskiestBut 44 = .ok (.iload_n 3, 1) := by decide +kernel
theorem dX0_riskiestBut_45 : decode cX0_riskiestBut 45 = .ok (.istore_n 2, 1) := by decide +kernel
theorem dX0_riskiestBut_46 : decode cX0_riskiestBut 46 = .ok (.iinc 3 1, 3) := by decide +kernel
theorem dX0_riskiestBut_49 : decode cX0_riskiestBut 49 = .ok (.goto (-45), 3) := by decide +kernel
theorem dX0_riskiestBut_52 : decode cX0_riskiestBut 52 = .ok (.iload_n 2, 1) := by decide +kernel
theorem dX0_riskiestBut_53 : decode cX0_riskiestBut 53 = .ok (.iconst (-1), 1) := by decide +kernel
theorem dX0_riskiestBut_54 : decode cX0_riskiestBut 54 = .ok (.if_icmp .ne 7, 3) := by decide +kernel
theorem dX0_riskiestBut_57 : decode cX0_riskiestBut 57 = .ok (.iconst 0, 1) := by decide +kernel
theorem dX0_riskiestBut_58 : decode cX0_riskiestBut 58 = .ok (.goto 4, 3) := by decide +kernel
theorem dX0_riskiestBut_61 : decode cX0_riskiestBut 61 = .ok (.iload_n 2, 1) := by decide +kernel
theorem dX0_riskiestBut_62 : decode cX0_riskiestBut 62 = .ok (.ireturn, 1) := by decide +kernel
theorem dX0_lookAtClients_0 : decode cX0_lookAtClients 0 = .ok (.iconst 0, 1) := by decide +kernel
theorem dX0_lookAtClients_1 : decode cX0_lookAtClients 1 = .ok (.istore_n 1, 1) := by decide +kernel
theorem dX0_lookAtClients_2 : decode cX0_lookAtClients 2 = .ok (.iconst 0, 1) := by decide +kernel
theorem dX0_lookAtClients_3 : decode cX0_lookAtClients 3 = .ok (.istore_n 2, 1) := by decide +kernel
theorem dX0_lookAtClients_4 : decode cX0_lookAtClients 4 = .ok (.iload_n 2, 1) := by decide +kernel
theorem dX0_lookAtClients_5 : decode cX0_lookAtClients 5 = .ok (.bipush 8, 2) := by decide +kernel
theorem dX0_lookAtClients_7 : decode cX0_lookAtClients 7 = .ok (.if_icmp .ge 55, 3) := by decide +kernel
theorem dX0_lookAtClients_10 : decode cX0_lookAtClients 10 = .ok (.aload_n 0, 1) := by decide +kernel
theorem dX0_lookAtClients_11 : decode cX0_lookAtClients 11 = .ok (.getfield 27, 3) := by decide +kernel
theorem dX0_lookAtClients_14 : decode cX0_lookAtClients 14 = .ok (.iload_n 2, 1) := by decide +kernel
theorem dX0_lookAtClients_15 : decode cX0_lookAtClients 15 = .ok (.iaload, 1) := by decide +kernel
theorem dX0_lookAtClients_16 : decode cX0_lookAtClients 16 = .ok (.aload_n 0, 1) := by decide +kernel
theorem dX0_lookAtClients_17 : decode cX0_lookAtClients 17 = .ok (.iload_n 2, 1) := by decide +kernel
theorem dX0_lookAtClients_18 : decode cX0_lookAtClients 18 = .ok (.invokevirtual 94, 3) := by decide +kernel
theorem dX0_lookAtClients_21 : decode cX0_lookAtClients 21 = .ok (.if_icmp .gt 13, 3) := by decide +kernel
theorem dX0_lookAtClients_24 : decode cX0_lookAtClients 24 = .ok (.aload_n 0, 1) := by decide +kernel
theorem dX0_lookAtClients_25 : decode cX0_lookAtClients 25 = .ok (.getfield 30, 3) := by decide +kernel
theorem dX0_lookAtClients_28 : decode cX0_lookAtClients 28 = .ok (.iload_n 2, 1) := by decide +kernel
theorem dX0_lookAtClients_29 : decode cX0_lookAtClients 29 = .ok (.iconst 0, 1) := by decide +kernel
theorem dX0_lookAtClients_30 : decode cX0_lookAtClients 30 = .ok (.iastore, 1) := by decide +kernel
theorem dX0_lookAtClients_31 : decode cX0_lookAtClients 31 = .ok (.goto 25, 3) := by decide +kernel
theorem dX0_lookAtClients_34 : decode cX0_lookAtClients 34 = .ok (.aload_n 0, 1) := by decide +kernel
theorem dX0_lookAtClients_35 : decode cX0_lookAtClients 35 = .ok (.getfield 30, 3) := by decide +kernel
theorem dX0_lookAtClients_38 : decode cX0_lookAtClients 38 = .ok (.iload_n 2, 1) := by decide +kernel
theorem dX0_lookAtClients_39 : decode cX0_lookAtClients 39 = .ok (.iaload, 1) := by decide +kernel
theorem dX0_lookAtClients_40 : decode cX0_lookAtClients 40 = .ok (.ifCond .ne 16, 3) := by decide +kernel
theorem dX0_lookAtClients_43 : decode cX0_lookAtClients 43 = .ok (.aload_n 0, 1) := by decide +kernel
theorem dX0_lookAtClients_44 : decode cX0_lookAtClients 44 = .ok (.getfield 30, 3) := by decide +kernel
theorem dX0_lookAtClients_47 : decode cX0_lookAtClients 47 = .ok (.iload_n 2, 1) := by decide +kernel
theorem dX0_lookAtClients_48 : decode cX0_lookAtClients 48 = .ok (.aload_n 0, 1) := by decide +kernel
theorem dX0_lookAtClients_49 : decode cX0_lookAtClients 49 = .ok (.getfield 41, 3) := by decide +kernel
theorem dX0_lookAtClients_52 : decode cX0_lookAtClients 52 = .ok (.iastore, 1) := by decide +kernel
theorem dX0_lookAtClients_53 : decode cX0_lookAtClients 53 = .ok (.iinc 1 1, 3) := by decide +kernel
theorem dX0_lookAtClients_56 : decode cX0_lookAtClients 56 = .ok (.iinc 2 1, 3) := by decide +kernel
theorem dX0_lookAtClients_59 : decode cX0_lookAtClients 59 = .ok (.goto (-55), 3) := by decide +kernel
theorem dX0_lookAtClients_62 : decode cX0_lookAtClients 62 = .ok (.aload_n 0, 1) := by decide +kernel
theorem dX0_lookAtClients_63 : decode cX0_lookAtClients 63 = .ok (.dup, 1) := by decide +kernel
theorem dX0_lookAtClients_64 : decode cX0_lookAtClients 64 = .ok (.getfield 77, 3) := by decide +kernel
theorem dX0_lookAtClients_67 : decode cX0_lookAtClients 67 = .ok (.iload_n 1, 1) := by decide +kernel
theorem dX0_lookAtClients_68 : decode cX0_lookAtClients 68 = .ok (.iadd, 1) := by decide +kernel
theorem dX0_lookAtClients_69 : decode cX0_lookAtClients 69 = .ok (.putfield 77, 3) := by decide +kernel
theorem dX0_lookAtClients_72 : decode cX0_lookAtClients 72 = .ok (.iload_n 1, 1) := by decide +kernel
theorem dX0_lookAtClients_73 : decode cX0_lookAtClients 73 = .ok (.ireturn, 1) := by decide +kernel
theorem dX0_putPrice_0 : decode cX0_putPrice 0 = .ok (.aload_n 0, 1) := by decide +kernel
theorem dX0_putPrice_1 : decode cX0_putPrice 1 = .ok (.getfield 9, 3) := by decide +kernel
theorem dX0_putPrice_4 : decode cX0_putPrice 4 = .ok (.iload_n 1, 1) := by decide +kernel
theorem dX0_putPrice_5 : decode cX0_putPrice 5 = .ok (.iload_n 2, 1) := by decide +kernel
theorem dX0_putPrice_6 : decode cX0_putPrice 6 = .ok (.iastore, 1) := by decide +kernel
theorem dX0_putPrice_7 : decode cX0_putPrice 7 = .ok (.aload_n 0, 1) := by decide +kernel
theorem dX0_putPrice_8 : decode cX0_putPrice 8 = .ok (.invokevirtual 116, 3) := by decide +kernel
theorem dX0_putPrice_11 : decode cX0_putPrice 11 = .ok (.ireturn, 1) := by decide +kernel
theorem dX0_putCut_0 : decode cX0_putCut 0 = .ok (.aload_n 0, 1) := by decide +kernel
theorem dX0_putCut_1 : decode cX0_putCut 1 = .ok (.getfield 15, 3) := by decide +kernel
theorem dX0_putCut_4 : decode cX0_putCut 4 = .ok (.iload_n 1, 1) := by decide +kernel
theorem dX0_putCut_5 : decode cX0_putCut 5 = .ok (.iload_n 2, 1) := by decide +kernel
theorem dX0_putCut_6 : decode cX0_putCut 6 = .ok (.iastore, 1) := by decide +kernel
theorem dX0_putCut_7 : decode cX0_putCut 7 = .ok (.aload_n 0, 1) := by decide +kernel
theorem dX0_putCut_8 : decode cX0_putCut 8 = .ok (.invokevirtual 116, 3) := by decide +kernel
theorem dX0_putCut_11 : decode cX0_putCut 11 = .ok (.ireturn, 1) := by decide +kernel
theorem dX0_dropPrices_0 : decode cX0_dropPrices 0 = .ok (.iconst 0, 1) := by decide +kernel
theorem dX0_dropPrices_1 : decode cX0_dropPrices 1 = .ok (.istore_n 2, 1) := by decide +kernel
theorem dX0_dropPrices_2 : decode cX0_dropPrices 2 = .ok (.iload_n 2, 1) := by decide +kernel
theorem dX0_dropPrices_3 : decode cX0_dropPrices 3 = .ok (.bipush 6, 2) := by decide +kernel
theorem dX0_dropPrices_5 : decode cX0_dropPrices 5 = .ok (.if_icmp .ge 26, 3) := by decide +kernel
theorem dX0_dropPrices_8 : decode cX0_dropPrices 8 = .ok (.aload_n 0, 1) := by decide +kernel
theorem dX0_dropPrices_9 : decode cX0_dropPrices 9 = .ok (.getfield 9, 3) := by decide +kernel
theorem dX0_dropPrices_12 : decode cX0_dropPrices 12 = .ok (.iload_n 2, 1) := by decide +kernel
theorem dX0_dropPrices_13 : decode cX0_dropPrices 13 = .ok (.aload_n 0, 1) := by decide +kernel
theorem dX0_dropPrices_14 : decode cX0_dropPrices 14 = .ok (.getfield 9, 3) := by decide +kernel
theorem dX0_dropPrices_17 : decode cX0_dropPrices 17 = .ok (.iload_n 2, 1) := by decide +kernel
theorem dX0_dropPrices_18 : decode cX0_dropPrices 18 = .ok (.iaload, 1) := by decide +kernel
theorem dX0_dropPrices_19 : decode cX0_dropPrices 19 = .ok (.iload_n 1, 1) := by decide +kernel
theorem dX0_dropPrices_20 : decode cX0_dropPrices 20 = .ok (.iconst 1, 1) := by decide +kernel
theorem dX0_dropPrices_21 : decode cX0_dropPrices 21 = .ok (.invokestatic 91, 3) := by decide +kernel
theorem dX0_dropPrices_24 : decode cX0_dropPrices 24 = .ok (.iastore, 1) := by decide +kernel
theorem dX0_dropPrices_25 : decode cX0_dropPrices 25 = .ok (.iinc 2 1, 3) := by decide +kernel
theorem dX0_dropPrices_28 : decode cX0_dropPrices 28 = .ok (.goto (-26), 3) := by decide +kernel
theorem dX0_dropPrices_31 : decode cX0_dropPrices 31 = .ok (.aload_n 0, 1) := by decide +kernel
theorem dX0_dropPrices_32 : decode cX0_dropPrices 32 = .ok (.invokevirtual 116, 3) := by decide +kernel
theorem dX0_dropPrices_35 : decode cX0_dropPrices 35 = .ok (.ireturn, 1) := by decide +kernel
theorem dX0_addPieces_0 : decode cX0_addPieces 0 = .ok (.iload_n 1, 1) := by decide +kernel
theorem dX0_addPieces_1 : decode cX0_addPieces 1 = .ok (.iload_n 2, 1) := by decide +kernel
theorem dX0_addPieces_2 : decode cX0_addPieces 2 = .ok (.invokestatic 83, 3) := by decide +kernel
theorem dX0_addPieces_5 : decode cX0_addPieces 5 = .ok (.istore 4, 2) := by decide +kernel
theorem dX0_addPieces_7 : decode cX0_addPieces 7 = .ok (.aload_n 0, 1) := by decide +kernel
theorem dX0_addPieces_8 : decode cX0_addPieces 8 = .ok (.getfield 21, 3) := by decide +kernel
theorem dX0_addPieces_11 : decode cX0_addPieces 11 = .ok (.iload 4, 2) := by decide +kernel
theorem dX0_addPieces_13 : decode cX0_addPieces 13 = .ok (.iaload, 1) := by decide +kernel
theorem dX0_addPieces_14 : decode cX0_addPieces 14 = .ok (.iload_n 3, 1) := by decide +kernel
theorem dX0_addPieces_15 : decode cX0_addPieces 15 = .ok (.iadd, 1) := by decide +kernel
theorem dX0_addPieces_16 : decode cX0_addPieces 16 = .ok (.bipush 99, 2) := by decide +kernel
theorem dX0_addPieces_18 : decode cX0_addPieces 18 = .ok (.if_icmp .le 5, 3) := by decide +kernel
theorem dX0_addPieces_21 : decode cX0_addPieces 21 = .ok (.iconst 0, 1) := by decide +kernel
theorem dX0_addPieces_22 : decode cX0_addPieces 22 = .ok (.ireturn, 1) := by decide +kernel
theorem dX0_addPieces_23 : decode cX0_addPieces 23 = .ok (.aload_n 0, 1) := by decide +kernel
theorem dX0_addPieces_24 : decode cX0_addPieces 24 = .ok (.getfield 21, 3) := by decide +kernel
theorem dX0_addPieces_27 : decode cX0_addPieces 27 = .ok (.iload 4, 2) := by decide +kernel
theorem dX0_addPieces_29 : decode cX0_addPieces 29 = .ok (.dup2, 1) := by decide +kernel
theorem dX0_addPieces_30 : decode cX0_addPieces 30 = .ok (.iaload, 1) := by decide +kernel
theorem dX0_addPieces_31 : decode cX0_addPieces 31 = .ok (.iload_n 3, 1) := by decide +kernel
theorem dX0_addPieces_32 : decode cX0_addPieces 32 = .ok (.iadd, 1) := by decide +kernel
theorem dX0_addPieces_33 : decode cX0_addPieces 33 = .ok (.iastore, 1) := by decide +kernel
theorem dX0_addPieces_34 : decode cX0_addPieces 34 = .ok (.aload_n 0, 1) := by decide +kernel
theorem dX0_addPieces_35 : decode cX0_addPieces 35 = .ok (.invokevirtual 116, 3) := by decide +kernel
theorem dX0_addPieces_38 : decode cX0_addPieces 38 = .ok (.pop, 1) := by decide +kernel
theorem dX0_addPieces_39 : decode cX0_addPieces 39 = .ok (.iconst 1, 1) := by decide +kernel
theorem dX0_addPieces_40 : decode cX0_addPieces 40 = .ok (.ireturn, 1) := by decide +kernel
theorem dX0_takePieces_0 : decode cX0_takePieces 0 = .ok (.iload_n 1, 1) := by decide +kernel
theorem dX0_takePieces_1 : decode cX0_takePieces 1 = .ok (.iload_n 2, 1) := by decide +kernel
theorem dX0_takePieces_2 : decode cX0_takePieces 2 = .ok (.invokestatic 83, 3) := by decide +kernel
theorem dX0_takePieces_5 : decode cX0_takePieces 5 = .ok (.istore 4, 2) := by decide +kernel
theorem dX0_takePieces_7 : decode cX0_takePieces 7 = .ok (.aload_n 0, 1) := by decide +kernel
theorem dX0_takePieces_8 : decode cX0_takePieces 8 = .ok (.getfield 21, 3) := by decide +kernel
theorem dX0_takePieces_11 : decode cX0_takePieces 11 = .ok (.iload 4, 2) := by decide +kernel
theorem dX0_takePieces_13 : decode cX0_takePieces 13 = .ok (.iaload, 1) := by decide +kernel
theorem dX0_takePieces_14 : decode cX0_takePieces 14 = .ok (.iload_n 3, 1) := by decide +kernel
theorem dX0_takePieces_15 : decode cX0_takePieces 15 = .ok (.if_icmp .ge 5, 3) := by decide +kernel
theorem dX0_takePieces_18 : decode cX0_takePieces 18 = .ok (.iconst 0, 1) := by decide +kernel
theorem dX0_takePieces_19 : decode cX0_takePieces 19 = .ok (.ireturn, 1) := by decide +kernel
theorem dX0_takePieces_20 : decode cX0_takePieces 20 = .ok (.aload_n 0, 1) := by decide +kernel
theorem dX0_takePieces_21 : decode cX0_takePieces 21 = .ok (.getfield 21, 3) := by decide +kernel
theorem dX0_takePieces_24 : decode cX0_takePieces 24 = .ok (.iload 4, 2) := by decide +kernel
theorem dX0_takePieces_26 : decode cX0_takePieces 26 = .ok (.dup2, 1) := by decide +kernel
theorem dX0_takePieces_27 : decode cX0_takePieces 27 = .ok (.iaload, 1) := by decide +kernel
theorem dX0_takePieces_28 : decode cX0_takePieces 28 = .ok (.iload_n 3, 1) := by decide +kernel
theorem dX0_takePieces_29 : decode cX0_takePieces 29 = .ok (.isub, 1) := by decide +kernel
theorem dX0_takePieces_30 : decode cX0_takePieces 30 = .ok (.iastore, 1) := by decide +kernel
theorem dX0_takePieces_31 : decode cX0_takePieces 31 = .ok (.aload_n 0, 1) := by decide +kernel
theorem dX0_takePieces_32 : decode cX0_takePieces 32 = .ok (.getfield 27, 3) := by decide +kernel
theorem dX0_takePieces_35 : decode cX0_takePieces 35 = .ok (.iload_n 1, 1) := by decide +kernel
theorem dX0_takePieces_36 : decode cX0_takePieces 36 = .ok (.iaload, 1) := by decide +kernel
theorem dX0_takePieces_37 : decode cX0_takePieces 37 = .ok (.aload_n 0, 1) := by decide +kernel
theorem dX0_takePieces_38 : decode cX0_takePieces 38 = .ok (.iload_n 1, 1) := by decide +kernel
theorem dX0_takePieces_39 : decode cX0_takePieces 39 = .ok (.invokevirtual 94, 3) := by decide +kernel
theorem dX0_takePieces_42 : decode cX0_takePieces 42 = .ok (.if_icmp .le 16, 3) := by decide +kernel
theorem dX0_takePieces_45 : decode cX0_takePieces 45 = .ok (.aload_n 0, 1) := by decide +kernel
theorem dX0_takePieces_46 : decode cX0_takePieces 46 = .ok (.getfield 21, 3) := by decide +kernel
theorem dX0_takePieces_49 : decode cX0_takePieces 49 = .ok (.iload 4, 2) := by decide +kernel
theorem dX0_takePieces_51 : decode cX0_takePieces 51 = .ok (.dup2, 1) := by decide +kernel
theorem dX0_takePieces_52 : decode cX0_takePieces 52 = .ok (.iaload, 1) := by decide +kernel
theorem dX0_takePieces_53 : decode cX0_takePieces 53 = .ok (.iload_n 3, 1) := by decide +kernel
theorem dX0_takePieces_54 : decode cX0_takePieces 54 = .ok (.iadd, 1) := by decide +kernel
theorem dX0_takePieces_55 : decode cX0_takePieces 55 = .ok (.iastore, 1) := by decide +kernel
theorem dX0_takePieces_56 : decode cX0_takePieces 56 = .ok (.iconst 0, 1) := by decide +kernel
theorem dX0_takePieces_57 : decode cX0_takePieces 57 = .ok (.ireturn, 1) := by decide +kernel
theorem dX0_takePieces_58 : decode cX0_takePieces 58 = .ok (.aload_n 0, 1) := by decide +kernel
theorem dX0_takePieces_59 : decode cX0_takePieces 59 = .ok (.invokevirtual 116, 3) := by decide +kernel
theorem dX0_takePieces_62 : decode cX0_takePieces 62 = .ok (.pop, 1) := by decide +kernel
theorem dX0_takePieces_63 : decode cX0_takePieces 63 = .ok (.iconst 1, 1) := by decide +kernel
theorem dX0_takePieces_64 : decode cX0_takePieces 64 = .ok (.ireturn, 1) := by decide +kernel
theorem dX0_addCoins_0 : decode cX0_addCoins 0 = .ok (.aload_n 0, 1) := by decide +kernel
theorem dX0_addCoins_1 : decode cX0_addCoins 1 = .ok (.getfield 24, 3) := by decide +kernel
theorem dX0_addCoins_4 : decode cX0_addCoins 4 = .ok (.iload_n 1, 1) := by decide +kernel
theorem dX0_addCoins_5 : decode cX0_addCoins 5 = .ok (.iaload, 1) := by decide +kernel
theorem dX0_addCoins_6 : decode cX0_addCoins 6 = .ok (.iload_n 2, 1) := by decide +kernel
theorem dX0_addCoins_7 : decode cX0_addCoins 7 = .ok (.iadd, 1) := by decide +kernel
theorem dX0_addCoins_8 : decode cX0_addCoins 8 = .ok (.ldc 120, 2) := by decide +kernel
theorem dX0_addCoins_10 : decode cX0_addCoins 10 = .ok (.if_icmp .le 5, 3) := by decide +kernel
theorem dX0_addCoins_13 : decode cX0_addCoins 13 = .ok (.iconst 0, 1) := by decide +kernel
theorem dX0_addCoins_14 : decode cX0_addCoins 14 = .ok (.ireturn, 1) := by decide +kernel
theorem dX0_addCoins_15 : decode cX0_addCoins 15 = .ok (.aload_n 0, 1) := by decide +kernel
theorem dX0_addCoins_16 : decode cX0_addCoins 16 = .ok (.getfield 24, 3) := by decide +kernel
theorem dX0_addCoins_19 : decode cX0_addCoins 19 = .ok (.iload_n 1, 1) := by decide +kernel
theorem dX0_addCoins_20 : decode cX0_addCoins 20 = .ok (.dup2, 1) := by decide +kernel
theorem dX0_addCoins_21 : decode cX0_addCoins 21 = .ok (.iaload, 1) := by decide +kernel
theorem dX0_addCoins_22 : decode cX0_addCoins 22 = .ok (.iload_n 2, 1) := by decide +kernel
theorem dX0_addCoins_23 : decode cX0_addCoins 23 = .ok (.iadd, 1) := by decide +kernel
theorem dX0_addCoins_24 : decode cX0_addCoins 24 = .ok (.iastore, 1) := by decide +kernel
theorem dX0_addCoins_25 : decode cX0_addCoins 25 = .ok (.aload_n 0, 1) := by decide +kernel
theorem dX0_addCoins_26 : decode cX0_addCoins 26 = .ok (.invokevirtual 116, 3) := by decide +kernel
theorem dX0_addCoins_29 : decode cX0_addCoins 29 = .ok (.pop, 1) := by decide +kernel
theorem dX0_addCoins_30 : decode cX0_addCoins 30 = .ok (.iconst 1, 1) := by decide +kernel
theorem dX0_addCoins_31 : decode cX0_addCoins 31 = .ok (.ireturn, 1) := by decide +kernel
theorem dX0_addDebt_0 : decode cX0_addDebt 0 = .ok (.aload_n 0, 1) := by decide +kernel
theorem dX0_addDebt_1 : decode cX0_addDebt 1 = .ok (.getfield 33, 3) := by decide +kernel
theorem dX0_addDebt_4 : decode cX0_addDebt 4 = .ok (.iload_n 1, 1) := by decide +kernel
theorem dX0_addDebt_5 : decode cX0_addDebt 5 = .ok (.baload, 1) := by decide +kernel
theorem dX0_addDebt_6 : decode cX0_addDebt 6 = .ok (.ifCond .ne 19, 3) := by decide +kernel
theorem dX0_addDebt_9 : decode cX0_addDebt 9 = .ok (.aload_n 0, 1) := by decide +kernel
theorem dX0_addDebt_10 : decode cX0_addDebt 10 = .ok (.getfield 27, 3) := by decide +kernel
theorem dX0_addDebt_13 : decode cX0_addDebt 13 = .ok (.iload_n 1, 1) := by decide +kernel
theorem dX0_addDebt_14 : decode cX0_addDebt 14 = .ok (.iaload, 1) := by decide +kernel
theorem dX0_addDebt_15 : decode cX0_addDebt 15 = .ok (.iload_n 2, 1) := by decide +kernel
theorem dX0_addDebt_16 : decode cX0_addDebt 16 = .ok (.iadd, 1) := by decide +kernel
theorem dX0_addDebt_17 : decode cX0_addDebt 17 = .ok (.aload_n 0, 1) := by decide +kernel
theorem dX0_addDebt_18 : decode cX0_addDebt 18 = .ok (.iload_n 1, 1) := by decide +kernel
theorem dX0_addDebt_19 : decode cX0_addDebt 19 = .ok (.invokevirtual 94, 3) := by decide +kernel
theorem dX0_addDebt_22 : decode cX0_addDebt 22 = .ok (.if_icmp .le 5, 3) := by decide +kernel
theorem dX0_addDebt_25 : decode cX0_addDebt 25 = .ok (.iconst 0, 1) := by decide +kernel
theorem dX0_addDebt_26 : decode cX0_addDebt 26 = .ok (.ireturn, 1) := by decide +kernel
theorem dX0_addDebt_27 : decode cX0_addDebt 27 = .ok (.aload_n 0, 1) := by decide +kernel
theorem dX0_addDebt_28 : decode cX0_addDebt 28 = .ok (.getfield 27, 3) := by decide +kernel
theorem dX0_addDebt_31 : decode cX0_addDebt 31 = .ok (.iload_n 1, 1) := by decide +kernel
theorem dX0_addDebt_32 : decode cX0_addDebt 32 = .ok (.dup2, 1) := by decide +kernel
theorem dX0_addDebt_33 : decode cX0_addDebt 33 = .ok (.iaload, 1) := by decide +kernel
theorem dX0_addDebt_34 : decode cX0_addDebt 34 = .ok (.iload_n 2, 1) := by decide +kernel
theorem dX0_addDebt_35 : decode cX0_addDebt 35 = .ok (.iadd, 1) := by decide +kernel
theorem dX0_addDebt_36 : decode cX0_addDebt 36 = .ok (.iastore, 1) := by decide +kernel
theorem dX0_addDebt_37 : decode cX0_addDebt 37 = .ok (.aload_n 0, 1) := by decide +kernel
theorem dX0_addDebt_38 : decode cX0_addDebt 38 = .ok (.dup, 1) := by decide +kernel
theorem dX0_addDebt_39 : decode cX0_addDebt 39 = .ok (.getfield 65, 3) := by decide +kernel
theorem dX0_addDebt_42 : decode cX0_addDebt 42 = .ok (.iload_n 2, 1) := by decide +kernel
theorem dX0_addDebt_43 : decode cX0_addDebt 43 = .ok (.iadd, 1) := by decide +kernel
theorem dX0_addDebt_44 : decode cX0_addDebt 44 = .ok (.putfield 65, 3) := by decide +kernel
theorem dX0_addDebt_47 : decode cX0_addDebt 47 = .ok (.aload_n 0, 1) := by decide +kernel
theorem dX0_addDebt_48 : decode cX0_addDebt 48 = .ok (.invokevirtual 116, 3) := by decide +kernel
theorem dX0_addDebt_51 : decode cX0_addDebt 51 = .ok (.pop, 1) := by decide +kernel
theorem dX0_addDebt_52 : decode cX0_addDebt 52 = .ok (.iconst 1, 1) := by decide +kernel
theorem dX0_addDebt_53 : decode cX0_addDebt 53 = .ok (.ireturn, 1) := by decide +kernel
theorem dX0_takeDebt_0 : decode cX0_takeDebt 0 = .ok (.aload_n 0, 1) := by decide +kernel
theorem dX0_takeDebt_1 : decode cX0_takeDebt 1 = .ok (.getfield 27, 3) := by decide +kernel
theorem dX0_takeDebt_4 : decode cX0_takeDebt 4 = .ok (.iload_n 1, 1) := by decide +kernel
theorem dX0_takeDebt_5 : decode cX0_takeDebt 5 = .ok (.iaload, 1) := by decide +kernel
theorem dX0_takeDebt_6 : decode cX0_takeDebt 6 = .ok (.ifCond .ne 5, 3) := by decide +kernel
theorem dX0_takeDebt_9 : decode cX0_takeDebt 9 = .ok (.iconst (-1), 1) := by decide +kernel
theorem dX0_takeDebt_10 : decode cX0_takeDebt 10 = .ok (.ireturn, 1) := by decide +kernel
theorem dX0_takeDebt_11 : decode cX0_takeDebt 11 = .ok (.iload_n 2, 1) := by decide +kernel
theorem dX0_takeDebt_12 : decode cX0_takeDebt 12 = .ok (.aload_n 0, 1) := by decide +kernel
theorem dX0_takeDebt_13 : decode cX0_takeDebt 13 = .ok (.getfield 27, 3) := by decide +kernel
theorem dX0_takeDebt_16 : decode cX0_takeDebt 16 = .ok (.iload_n 1, 1) := by decide +kernel
theorem dX0_takeDebt_17 : decode cX0_takeDebt 17 = .ok (.iaload, 1) := by decide +kernel
theorem dX0_takeDebt_18 : decode cX0_takeDebt 18 = .ok (.if_icmp .ge 7, 3) := by decide +kernel
theorem dX0_takeDebt_21 : decode cX0_takeDebt 21 = .ok (.iload_n 2, 1) := by decide +kernel
theorem dX0_takeDebt_22 : decode cX0_takeDebt 22 = .ok (.goto 9, 3) := by decide +kernel
theorem dX0_takeDebt_25 : decode cX0_takeDebt 25 = .ok (.aload_n 0, 1) := by decide +kernel
theorem dX0_takeDebt_26 : decode cX0_takeDebt 26 = .ok (.getfield 27, 3) := by decide +kernel
theorem dX0_takeDebt_29 : decode cX0_takeDebt 29 = .ok (.iload_n 1, 1) := by decide +kernel
theorem dX0_takeDebt_30 : decode cX0_takeDebt 30 = .ok (.iaload, 1) := by decide +kernel
theorem dX0_takeDebt_31 : decode cX0_takeDebt 31 = .ok (.istore_n 3, 1) := by decide +kernel
theorem dX0_takeDebt_32 : decode cX0_takeDebt 32 = .ok (.aload_n 0, 1) := by decide +kernel
theorem dX0_takeDebt_33 : decode cX0_takeDebt 33 = .ok (.getfield 27, 3) := by decide +kernel
theorem dX0_takeDebt_36 : decode cX0_takeDebt 36 = .ok (.iload_n 1, 1) := by decide +kernel
theorem dX0_takeDebt_37 : decode cX0_takeDebt 37 = .ok (.dup2, 1) := by decide +kernel
theorem dX0_takeDebt_38 : decode cX0_takeDebt 38 = .ok (.iaload, 1) := by decide +kernel
theorem dX0_takeDebt_39 : decode cX0_takeDebt 39 = .ok (.iload_n 3, 1) := by decide +kernel
theorem dX0_takeDebt_40 : decode cX0_takeDebt 40 = .ok (.isub, 1) := by decide +kernel
theorem dX0_takeDebt_41 : decode cX0_takeDebt 41 = .ok (.iastore, 1) := by decide +kernel
theorem dX0_takeDebt_42 : decode cX0_takeDebt 42 = .ok (.aload_n 0, 1) := by decide +kernel
theorem dX0_takeDebt_43 : decode cX0_takeDebt 43 = .ok (.dup, 1) := by decide +kernel
theorem dX0_takeDebt_44 : decode cX0_takeDebt 44 = .ok (.getfield 71, 3) := by decide +kernel
theorem dX0_takeDebt_47 : decode cX0_takeDebt 47 = .ok (.iload_n 3, 1) := by decide +kernel
theorem dX0_takeDebt_48 : decode cX0_takeDebt 48 = .ok (.iadd, 1) := by decide +kernel
theorem dX0_takeDebt_49 : decode cX0_takeDebt 49 = .ok (.putfield 71, 3) := by decide +kernel
theorem dX0_takeDebt_52 : decode cX0_takeDebt 52 = .ok (.aload_n 0, 1) := by decide +kernel
theorem dX0_takeDebt_53 : decode cX0_takeDebt 53 = .ok (.invokevirtual 116, 3) := by decide +kernel
theorem dX0_takeDebt_56 : decode cX0_takeDebt 56 = .ok (.pop, 1) := by decide +kernel
theorem dX0_takeDebt_57 : decode cX0_takeDebt 57 = .ok (.iload_n 3, 1) := by decide +kernel
theorem dX0_takeDebt_58 : decode cX0_takeDebt 58 = .ok (.ireturn, 1) := by decide +kernel
theorem dX0_passHours_0 : decode cX0_passHours 0 = .ok (.aload_n 0, 1) := by decide +kernel
theorem dX0_passHours_1 : decode cX0_passHours 1 = .ok (.getfield 80, 3) := by decide +kernel
theorem dX0_passHours_4 : decode cX0_passHours 4 = .ok (.istore_n 3, 1) := by decide +kernel
theorem dX0_passHours_5 : decode cX0_passHours 5 = .ok (.iconst 0, 1) := by decide +kernel
theorem dX0_passHours_6 : decode cX0_passHours 6 = .ok (.istore 4, 2) := by decide +kernel
theorem dX0_passHours_8 : decode cX0_passHours 8 = .ok (.iload 4, 2) := by decide +kernel
theorem dX0_passHours_10 : decode cX0_passHours 10 = .ok (.iload_n 1, 1) := by decide +kernel
theorem dX0_passHours_11 : decode cX0_passHours 11 = .ok (.if_icmp .ge 41, 3) := by decide +kernel
theorem dX0_passHours_14 : decode cX0_passHours 14 = .ok (.aload_n 0, 1) := by decide +kernel
theorem dX0_passHours_15 : decode cX0_passHours 15 = .ok (.invokevirtual 121, 3) := by decide +kernel
theorem dX0_passHours_18 : decode cX0_passHours 18 = .ok (.istore 5, 2) := by decide +kernel
theorem dX0_passHours_20 : decode cX0_passHours 20 = .ok (.aload_n 0, 1) := by decide +kernel
theorem dX0_passHours_21 : decode cX0_passHours 21 = .ok (.dup, 1) := by decide +kernel
theorem dX0_passHours_22 : decode cX0_passHours 22 = .ok (.getfield 62, 3) := by decide +kernel
theorem dX0_passHours_25 : decode cX0_passHours 25 = .ok (.iconst 1, 1) := by decide +kernel
theorem dX0_passHours_26 : decode cX0_passHours 26 = .ok (.iadd, 1) := by decide +kernel
theorem dX0_passHours_27 : decode cX0_passHours 27 = .ok (.putfield 62, 3) := by decide +kernel
theorem dX0_passHours_30 : decode cX0_passHours 30 = .ok (.aload_n 0, 1) := by decide +kernel
theorem dX0_passHours_31 : decode cX0_passHours 31 = .ok (.invokevirtual 124, 3) := by decide +kernel
theorem dX0_passHours_34 : decode cX0_passHours 34 = .ok (.aload_n 0, 1) := by decide +kernel
theorem dX0_passHours_35 : decode cX0_passHours 35 = .ok (.invokevirtual 116, 3) := by decide +kernel
theorem dX0_passHours_38 : decode cX0_passHours 38 = .ok (.pop, 1) := by decide +kernel
theorem dX0_passHours_39 : decode cX0_passHours 39 = .ok (.aload_n 0, 1) := by decide +kernel
theorem dX0_passHours_40 : decode cX0_passHours 40 = .ok (.iload 5, 2) := by decide +kernel
theorem dX0_passHours_42 : decode cX0_passHours 42 = .ok (.aload_n 2, 1) := by decide +kernel
theorem dX0_passHours_43 : decode cX0_passHours 43 = .ok (.invokevirtual 127, 3) := by decide +kernel
theorem dX0_passHours_46 : decode cX0_passHours 46 = .ok (.iinc 4 1, 3) := by decide +kernel
theorem dX0_passHours_49 : decode cX0_passHours 49 = .ok (.goto (-41), 3) := by decide +kernel
theorem dX0_passHours_52 : decode cX0_passHours 52 = .ok (.aload_n 0, 1) := by decide +kernel
theorem dX0_passHours_53 : decode cX0_passHours 53 = .ok (.invokevirtual 116, 3) := by decide +kernel
theorem dX0_passHours_56 : decode cX0_passHours 56 = .ok (.pop, 1) := by decide +kernel
theorem dX0_passHours_57 : decode cX0_passHours 57 = .ok (.aload_n 0, 1) := by decide +kernel
theorem dX0_passHours_58 : decode cX0_passHours 58 = .ok (.getfield 80, 3) := by decide +kernel
theorem dX0_passHours_61 : decode cX0_passHours 61 = .ok (.iload_n 3, 1) := by decide +kernel
theorem dX0_passHours_62 : decode cX0_passHours 62 = .ok (.isub, 1) := by decide +kernel
theorem dX0_passHours_63 : decode cX0_passHours 63 = .ok (.ireturn, 1) := by decide +kernel
theorem dX0_calledAsBits_0 : decode cX0_calledAsBits 0 = .ok (.iconst 0, 1) := by decide +kernel
theorem dX0_calledAsBits_1 : decode cX0_calledAsBits 1 = .ok (.istore_n 1, 1) := by decide +kernel
theorem dX0_calledAsBits_2 : decode cX0_calledAsBits 2 = .ok (.iconst 0, 1) := by decide +kernel
theorem dX0_calledAsBits_3 : decode cX0_calledAsBits 3 = .ok (.istore_n 2, 1) := by decide +kernel
theorem dX0_calledAsBits_4 : decode cX0_calledAsBits 4 = .ok (.iload_n 2, 1) := by decide +kernel
theorem dX0_calledAsBits_5 : decode cX0_calledAsBits 5 = .ok (.bipush 8, 2) := by decide +kernel
theorem dX0_calledAsBits_7 : decode cX0_calledAsBits 7 = .ok (.if_icmp .ge 28, 3) := by decide +kernel
theorem dX0_calledAsBits_10 : decode cX0_calledAsBits 10 = .ok (.iload_n 1, 1) := by decide +kernel
theorem dX0_calledAsBits_11 : decode cX0_calledAsBits 11 = .ok (.aload_n 0, 1) := by decide +kernel
theorem dX0_calledAsBits_12 : decode cX0_calledAsBits 12 = .ok (.getfield 30, 3) := by decide +kernel
theorem dX0_calledAsBits_15 : decode cX0_calledAsBits 15 = .ok (.iload_n 2, 1) := by decide +kernel
theorem dX0_calledAsBits_16 : decode cX0_calledAsBits 16 = .ok (.iaload, 1) := by decide +kernel
theorem dX0_calledAsBits_17 : decode cX0_calledAsBits 17 = .ok (.ifCond .le 9, 3) := by decide +kernel
theorem dX0_calledAsBits_20 : decode cX0_calledAsBits 20 = .ok (.iconst 1, 1) := by decide +kernel
theorem dX0_calledAsBits_21 : decode cX0_calledAsBits 21 = .ok (.iload_n 2, 1) := by decide +kernel
theorem dX0_calledAsBits_22 : decode cX0_calledAsBits 22 = .ok (.ishl, 1) := by decide +kernel
theorem dX0_calledAsBits_23 : decode cX0_calledAsBits 23 = .ok (.goto 4, 3) := by decide +kernel
theorem dX0_calledAsBits_26 : decode cX0_calledAsBits 26 = .ok (.iconst 0, 1) := by decide +kernel
theorem dX0_calledAsBits_27 : decode cX0_calledAsBits 27 = .ok (.ior, 1) := by decide +kernel
theorem dX0_calledAsBits_28 : decode cX0_calledAsBits 28 = .ok (.istore_n 1, 1) := by decide +kernel
theorem dX0_calledAsBits_29 : decode cX0_calledAsBits 29 = .ok (.iinc 2 1, 3) := by decide +kernel
theorem dX0_calledAsBits_32 : decode cX0_calledAsBits 32 = .ok (.goto (-28), 3) := by decide +kernel
theorem dX0_calledAsBits_35 : decode cX0_calledAsBits 35 = .ok (.iload_n 1, 1) := by decide +kernel
theorem dX0_calledAsBits_36 : decode cX0_calledAsBits 36 = .ok (.ireturn, 1) := by decide +kernel
theorem dX0_addInterest_0 : decode cX0_addInterest 0 = .ok (.iconst 0, 1) := by decide +kernel
theorem dX0_addInterest_1 : decode cX0_addInterest 1 = .ok (.istore_n 1, 1) := by decide +kernel
theorem dX0_addInterest_2 : decode cX0_addInterest 2 = .ok (.iload_n 1, 1) := by decide +kernel
theorem dX0_addInterest_3 : decode cX0_addInterest 3 = .ok (.bipush 8, 2) := by decide +kernel
theorem dX0_addInterest_5 : decode cX0_addInterest 5 = .ok (.if_icmp .ge 40, 3) := by decide +kernel
theorem dX0_addInterest_8 : decode cX0_addInterest 8 = .ok (.aload_n 0, 1) := by decide +kernel
theorem dX0_addInterest_9 : decode cX0_addInterest 9 = .ok (.aload_n 0, 1) := by decide +kernel
theorem dX0_addInterest_10 : decode cX0_addInterest 10 = .ok (.getfield 27, 3) := by decide +kernel
theorem dX0_addInterest_13 : decode cX0_addInterest 13 = .ok (.iload_n 1, 1) := by decide +kernel
theorem dX0_addInterest_14 : decode cX0_addInterest 14 = .ok (.iaload, 1) := by decide +kernel
theorem dX0_addInterest_15 : decode cX0_addInterest 15 = .ok (.invokevirtual 106, 3) := by decide +kernel
theorem dX0_addInterest_18 : decode cX0_addInterest 18 = .ok (.istore_n 2, 1) := by decide +kernel
theorem dX0_addInterest_19 : decode cX0_addInterest 19 = .ok (.aload_n 0, 1) := by decide +kernel
theorem dX0_addInterest_20 : decode cX0_addInterest 20 = .ok (.getfield 27, 3) := by decide +kernel
theorem dX0_addInterest_23 : decode cX0_addInterest 23 = .ok (.iload_n 1, 1) := by decide +kernel
theorem dX0_addInterest_24 : decode cX0_addInterest 24 = .ok (.dup2, 1) := by decide +kernel
theorem dX0_addInterest_25 : decode cX0_addInterest 25 = .ok (.iaload, 1) := by decide +kernel
theorem dX0_addInterest_26 : decode cX0_addInterest 26 = .ok (.iload_n 2, 1) := by decide +kernel
theorem dX0_addInterest_27 : decode cX0_addInterest 27 = .ok (.iadd, 1) := by decide +kernel
theorem dX0_addInterest_28 : decode cX0_addInterest 28 = .ok (.iastore, 1) := by decide +kernel
theorem dX0_addInterest_29 : decode cX0_addInterest 29 = .ok (.aload_n 0, 1) := by decide +kernel
theorem dX0_addInterest_30 : decode cX0_addInterest 30 = .ok (.dup, 1) := by decide +kernel
theorem dX0_addInterest_31 : decode cX0_addInterest 31 = .ok (.getfield 68, 3) := by decide +kernel
theorem dX0_addInterest_34 : decode cX0_addInterest 34 = .ok (.iload_n 2, 1) := by decide +kernel
theorem dX0_addInterest_35 : decode cX0_addInterest 35 = .ok (.iadd, 1) := by decide +kernel
theorem dX0_addInterest_36 : decode cX0_addInterest 36 = .ok (.putfield 68, 3) := by decide +kernel
theorem dX0_addInterest_39 : decode cX0_addInterest 39 = .ok (.iinc 1 1, 3) := by decide +kernel
theorem dX0_addInterest_42 : decode cX0_addInterest 42 = .ok (.goto (-40), 3) := by decide +kernel
theorem dX0_addInterest_45 : decode cX0_addInterest 45 = .ok (.return_, 1) := by decide +kernel
theorem dX0_countDown_0 : decode cX0_countDown 0 = .ok (.iconst 0, 1) := by decide +kernel
theorem dX0_countDown_1 : decode cX0_countDown 1 = .ok (.istore_n 3, 1) := by decide +kernel
theorem dX0_countDown_2 : decode cX0_countDown 2 = .ok (.iload_n 3, 1) := by decide +kernel
theorem dX0_countDown_3 : decode cX0_countDown 3 = .ok (.bipush 8, 2) := by decide +kernel
theorem dX0_countDown_5 : decode cX0_countDown 5 = .ok (.if_icmp .ge 69, 3) := by decide +kernel
theorem dX0_countDown_8 : decode cX0_countDown 8 = .ok (.iload_n 1, 1) := by decide +kernel
theorem dX0_countDown_9 : decode cX0_countDown 9 = .ok (.iload_n 3, 1) := by decide +kernel
theorem dX0_countDown_10 : decode cX0_countDown 10 = .ok (.ishr, 1) := by decide +kernel
theorem dX0_countDown_11 : decode cX0_countDown 11 = .ok (.iconst 1, 1) := by decide +kernel
theorem dX0_countDown_12 : decode cX0_countDown 12 = .ok (.iand, 1) := by decide +kernel
theorem dX0_countDown_13 : decode cX0_countDown 13 = .ok (.ifCond .eq 7, 3) := by decide +kernel
theorem dX0_countDown_16 : decode cX0_countDown 16 = .ok (.iconst 1, 1) := by decide +kernel
theorem dX0_countDown_17 : decode cX0_countDown 17 = .ok (.goto 4, 3) := by decide +kernel
theorem dX0_countDown_20 : decode cX0_countDown 20 = .ok (.iconst 0, 1) := by decide +kernel
theorem dX0_countDown_21 : decode cX0_countDown 21 = .ok (.istore 4, 2) := by decide +kernel
theorem dX0_countDown_23 : decode cX0_countDown 23 = .ok (.iload 4, 2) := by decide +kernel
theorem dX0_countDown_25 : decode cX0_countDown 25 = .ok (.ifCond .eq 43, 3) := by decide +kernel
theorem dX0_countDown_28 : decode cX0_countDown 28 = .ok (.aload_n 0, 1) := by decide +kernel
theorem dX0_countDown_29 : decode cX0_countDown 29 = .ok (.getfield 30, 3) := by decide +kernel
theorem dX0_countDown_32 : decode cX0_countDown 32 = .ok (.iload_n 3, 1) := by decide +kernel
theorem dX0_countDown_33 : decode cX0_countDown 33 = .ok (.iaload, 1) := by decide +kernel
theorem dX0_countDown_34 : decode cX0_countDown 34 = .ok (.ifCond .le 34, 3) := by decide +kernel
theorem dX0_countDown_37 : decode cX0_countDown 37 = .ok (.aload_n 0, 1) := by decide +kernel
theorem dX0_countDown_38 : decode cX0_countDown 38 = .ok (.getfield 30, 3) := by decide +kernel
theorem dX0_countDown_41 : decode cX0_countDown 41 = .ok (.iload_n 3, 1) := by decide +kernel
theorem dX0_countDown_42 : decode cX0_countDown 42 = .ok (.dup2, 1) := by decide +kernel
theorem dX0_countDown_43 : decode cX0_countDown 43 = .ok (.iaload, 1) := by decide +kernel
theorem dX0_countDown_44 : decode cX0_countDown 44 = .ok (.iconst 1, 1) := by decide +kernel
theorem dX0_countDown_45 : decode cX0_countDown 45 = .ok (.isub, 1) := by decide +kernel
theorem dX0_countDown_46 : decode cX0_countDown 46 = .ok (.iastore, 1) := by decide +kernel
theorem dX0_countDown_47 : decode cX0_countDown 47 = .ok (.aload_n 0, 1) := by decide +kernel
theorem dX0_countDown_48 : decode cX0_countDown 48 = .ok (.getfield 30, 3) := by decide +kernel
theorem dX0_countDown_51 : decode cX0_countDown 51 = .ok (.iload_n 3, 1) := by decide +kernel
theorem dX0_countDown_52 : decode cX0_countDown 52 = .ok (.iaload, 1) := by decide +kernel
theorem dX0_countDown_53 : decode cX0_countDown 53 = .ok (.ifCond .ne 15, 3) := by decide +kernel
theorem dX0_countDown_56 : decode cX0_countDown 56 = .ok (.aload_n 2, 1) := by decide +kernel
theorem dX0_countDown_57 : decode cX0_countDown 57 = .ok (.aload_n 0, 1) := by decide +kernel
theorem dX0_countDown_58 : decode cX0_countDown 58 = .ok (.iload_n 3, 1) := by decide +kernel
theorem dX0_countDown_59 : decode cX0_countDown 59 = .ok (.invokevirtual 131, 3) := by decide +kernel
theorem dX0_countDown_62 : decode cX0_countDown 62 = .ok (.aload_n 0, 1) := by decide +kernel
theorem dX0_countDown_63 : decode cX0_countDown 63 = .ok (.aload_n 2, 1) := by decide +kernel
theorem dX0_countDown_64 : decode cX0_countDown 64 = .ok (.iload_n 3, 1) := by decide +kernel
theorem dX0_countDown_65 : decode cX0_countDown 65 = .ok (.invokevirtual 137, 3) := by decide +kernel
theorem dX0_countDown_68 : decode cX0_countDown 68 = .ok (.iinc 3 1, 3) := by decide +kernel
theorem dX0_countDown_71 : decode cX0_countDown 71 = .ok (.goto (-69), 3) := by decide +kernel
theorem dX0_countDown_74 : decode cX0_countDown 74 = .ok (.return_, 1) := by decide +kernel
theorem dX0_enterSale_0 : decode cX0_enterSale 0 = .ok (.iconst 0, 1) := by decide +kernel
theorem dX0_enterSale_1 : decode cX0_enterSale 1 = .ok (.istore_n 3, 1) := by decide +kernel
theorem dX0_enterSale_2 : decode cX0_enterSale 2 = .ok (.iload_n 3, 1) := by decide +kernel
theorem dX0_enterSale_3 : decode cX0_enterSale 3 = .ok (.bipush 6, 2) := by decide +kernel
theorem dX0_enterSale_5 : decode cX0_enterSale 5 = .ok (.if_icmp .ge 52, 3) := by decide +kernel
theorem dX0_enterSale_8 : decode cX0_enterSale 8 = .ok (.iload_n 2, 1) := by decide +kernel
theorem dX0_enterSale_9 : decode cX0_enterSale 9 = .ok (.iload_n 3, 1) := by decide +kernel
theorem dX0_enterSale_10 : decode cX0_enterSale 10 = .ok (.invokestatic 83, 3) := by decide +kernel
theorem dX0_enterSale_13 : decode cX0_enterSale 13 = .ok (.istore 4, 2) := by decide +kernel
theorem dX0_enterSale_15 : decode cX0_enterSale 15 = .ok (.aload_n 0, 1) := by decide +kernel
theorem dX0_enterSale_16 : decode cX0_enterSale 16 = .ok (.getfield 18, 3) := by decide +kernel
theorem dX0_enterSale_19 : decode cX0_enterSale 19 = .ok (.iload_n 3, 1) := by decide +kernel
theorem dX0_enterSale_20 : decode cX0_enterSale 20 = .ok (.dup2, 1) := by decide +kernel
theorem dX0_enterSale_21 : decode cX0_enterSale 21 = .ok (.iaload, 1) := by decide +kernel
theorem dX0_enterSale_22 : decode cX0_enterSale 22 = .ok (.aload_n 0, 1) := by decide +kernel
theorem dX0_enterSale_23 : decode cX0_enterSale 23 = .ok (.getfield 21, 3) := by decide +kernel
theorem dX0_enterSale_26 : decode cX0_enterSale 26 = .ok (.iload 4, 2) := by decide +kernel
theorem dX0_enterSale_28 : decode cX0_enterSale 28 = .ok (.iaload, 1) := by decide +kernel
theorem dX0_enterSale_29 : decode cX0_enterSale 29 = .ok (.aload_n 1, 1) := by decide +kernel
theorem dX0_enterSale_30 : decode cX0_enterSale 30 = .ok (.getfield 141, 3) := by decide +kernel
theorem dX0_enterSale_33 : decode cX0_enterSale 33 = .ok (.iload_n 3, 1) := by decide +kernel
theorem dX0_enterSale_34 : decode cX0_enterSale 34 = .ok (.iaload, 1) := by decide +kernel
theorem dX0_enterSale_35 : decode cX0_enterSale 35 = .ok (.isub, 1) := by decide +kernel
theorem dX0_enterSale_36 : decode cX0_enterSale 36 = .ok (.iadd, 1) := by decide +kernel
theorem dX0_enterSale_37 : decode cX0_enterSale 37 = .ok (.iastore, 1) := by decide +kernel
theorem dX0_enterSale_38 : decode cX0_enterSale 38 = .ok (.aload_n 0, 1) := by decide +kernel
theorem dX0_enterSale_39 : decode cX0_enterSale 39 = .ok (.getfield 21, 3) := by decide +kernel
theorem dX0_enterSale_42 : decode cX0_enterSale 42 = .ok (.iload 4, 2) := by decide +kernel
theorem dX0_enterSale_44 : decode cX0_enterSale 44 = .ok (.aload_n 1, 1) := by decide +kernel
theorem dX0_enterSale_45 : decode cX0_enterSale 45 = .ok (.getfield 141, 3) := by decide +kernel
theorem dX0_enterSale_48 : decode cX0_enterSale 48 = .ok (.iload_n 3, 1) := by decide +kernel
theorem dX0_enterSale_49 : decode cX0_enterSale 49 = .ok (.iaload, 1) := by decide +kernel
theorem dX0_enterSale_50 : decode cX0_enterSale 50 = .ok (.iastore, 1) := by decide +kernel
theorem dX0_enterSale_51 : decode cX0_enterSale 51 = .ok (.iinc 3 1, 3) := by decide +kernel
theorem dX0_enterSale_54 : decode cX0_enterSale 54 = .ok (.goto (-52), 3) := by decide +kernel
theorem dX0_enterSale_57 : decode cX0_enterSale 57 = .ok (.aload_n 0, 1) := by decide +kernel
theorem dX0_enterSale_58 : decode cX0_enterSale 58 = .ok (.getfield 24, 3) := by decide +kernel
theorem dX0_enterSale_61 : decode cX0_enterSale 61 = .ok (.iload_n 2, 1) := by decide +kernel
theorem dX0_enterSale_62 : decode cX0_enterSale 62 = .ok (.aload_n 1, 1) := by decide +kernel
theorem dX0_enterSale_63 : decode cX0_enterSale 63 = .ok (.getfield 144, 3) := by decide +kernel
theorem dX0_enterSale_66 : decode cX0_enterSale 66 = .ok (.iastore, 1) := by decide +kernel
theorem dX0_enterSale_67 : decode cX0_enterSale 67 = .ok (.aload_n 0, 1) := by decide +kernel
theorem dX0_enterSale_68 : decode cX0_enterSale 68 = .ok (.getfield 27, 3) := by decide +kernel
theorem dX0_enterSale_71 : decode cX0_enterSale 71 = .ok (.iload_n 2, 1) := by decide +kernel
theorem dX0_enterSale_72 : decode cX0_enterSale 72 = .ok (.aload_n 1, 1) := by decide +kernel
theorem dX0_enterSale_73 : decode cX0_enterSale 73 = .ok (.getfield 147, 3) := by decide +kernel
theorem dX0_enterSale_76 : decode cX0_enterSale 76 = .ok (.iastore, 1) := by decide +kernel
theorem dX0_enterSale_77 : decode cX0_enterSale 77 = .ok (.aload_n 0, 1) := by decide +kernel
theorem dX0_enterSale_78 : decode cX0_enterSale 78 = .ok (.dup, 1) := by decide +kernel
theorem dX0_enterSale_79 : decode cX0_enterSale 79 = .ok (.getfield 71, 3) := by decide +kernel
theorem dX0_enterSale_82 : decode cX0_enterSale 82 = .ok (.aload_n 1, 1) := by decide +kernel
theorem dX0_enterSale_83 : decode cX0_enterSale 83 = .ok (.getfield 150, 3) := by decide +kernel
theorem dX0_enterSale_86 : decode cX0_enterSale 86 = .ok (.iadd, 1) := by decide +kernel
theorem dX0_enterSale_87 : decode cX0_enterSale 87 = .ok (.putfield 71, 3) := by decide +kernel
theorem dX0_enterSale_90 : decode cX0_enterSale 90 = .ok (.aload_n 0, 1) := by decide +kernel
theorem dX0_enterSale_91 : decode cX0_enterSale 91 = .ok (.dup, 1) := by decide +kernel
theorem dX0_enterSale_92 : decode cX0_enterSale 92 = .ok (.getfield 74, 3) := by decide +kernel
theorem dX0_enterSale_95 : decode cX0_enterSale 95 = .ok (.aload_n 1, 1) := by decide +kernel
theorem dX0_enterSale_96 : decode cX0_enterSale 96 = .ok (.getfield 153, 3) := by decide +kernel
theorem dX0_enterSale_99 : decode cX0_enterSale 99 = .ok (.iadd, 1) := by decide +kernel
theorem dX0_enterSale_100 : decode cX0_enterSale 100 = .ok (.putfield 74, 3) := by decide +kernel
theorem dX0_enterSale_103 : decode cX0_enterSale 103 = .ok (.aload_n 1, 1) := by decide +kernel
theorem dX0_enterSale_104 : decode cX0_enterSale 104 = .ok (.getfield 153, 3) := by decide +kernel
theorem dX0_enterSale_107 : decode cX0_enterSale 107 = .ok (.ifCond .le 10, 3) := by decide +kernel
theorem dX0_enterSale_110 : decode cX0_enterSale 110 = .ok (.aload_n 0, 1) := by decide +kernel
theorem dX0_enterSale_111 : decode cX0_enterSale 111 = .ok (.getfield 33, 3) := by decide +kernel
theorem dX0_enterSale_114 : decode cX0_enterSale 114 = .ok (.iload_n 2, 1) := by decide +kernel
theorem dX0_enterSale_115 : decode cX0_enterSale 115 = .ok (.iconst 1, 1) := by decide +kernel
theorem dX0_enterSale_116 : decode cX0_enterSale 116 = .ok (.bastore, 1) := by decide +kernel
theorem dX0_enterSale_117 : decode cX0_enterSale 117 = .ok (.aload_n 0, 1) := by decide +kernel
theorem dX0_enterSale_118 : decode cX0_enterSale 118 = .ok (.getfield 30, 3) := by decide +kernel
theorem dX0_enterSale_121 : decode cX0_enterSale 121 = .ok (.iload_n 2, 1) := by decide +kernel
theorem dX0_enterSale_122 : decode cX0_enterSale 122 = .ok (.iconst 0, 1) := by decide +kernel
theorem dX0_enterSale_123 : decode cX0_enterSale 123 = .ok (.iastore, 1) := by decide +kernel
theorem dX0_enterSale_124 : decode cX0_enterSale 124 = .ok (.aload_n 0, 1) := by decide +kernel
theorem dX0_enterSale_125 : decode cX0_enterSale 125 = .ok (.dup, 1) := by decide +kernel
theorem dX0_enterSale_126 : decode cX0_enterSale 126 = .ok (.getfield 80, 3) := by decide +kernel
theorem dX0_enterSale_129 : decode cX0_enterSale 129 = .ok (.iconst 1, 1) := by decide +kernel
theorem dX0_enterSale_130 : decode cX0_enterSale 130 = .ok (.iadd, 1) := by decide +kernel
theorem dX0_enterSale_131 : decode cX0_enterSale 131 = .ok (.putfield 80, 3) := by decide +kernel
theorem dX0_enterSale_134 : decode cX0_enterSale 134 = .ok (.return_, 1) := by decide +kernel
theorem dX1_init_0 : decode cX1_init 0 = .ok (.aload_n 0, 1) := by decide +kernel
theorem dX1_init_1 : decode cX1_init 1 = .ok (.invokespecial 3, 3) := by decide +kernel
theorem dX1_init_4 : decode cX1_init 4 = .ok (.aload_n 0, 1) := by decide +kernel
theorem dX1_init_5 : decode cX1_init 5 = .ok (.bipush 60, 2) := by decide +kernel
theorem dX1_init_7 : decode cX1_init 7 = .ok (.newarray .int, 2) := by decide +kernel
theorem dX1_init_9 : decode cX1_init 9 = .ok (.putfield 9, 3) := by decide +kernel
theorem dX1_init_12 : decode cX1_init 12 = .ok (.return_, 1) := by decide +kernel
theorem dX2_init_0 : decode cX2_init 0 = .ok (.aload_n 0, 1) := by decide +kernel
theorem dX2_init_1 : decode cX2_init 1 = .ok (.invokespecial 3, 3) := by decide +kernel
theorem dX2_init_4 : decode cX2_init 4 = .ok (.aload_n 0, 1) := by decide +kernel
theorem dX2_init_5 : decode cX2_init 5 = .ok (.bipush 6, 2) := by decide +kernel
theorem dX2_init_7 : decode cX2_init 7 = .ok (.newarray .int, 2) := by decide +kernel
theorem dX2_init_9 : decode cX2_init 9 = .ok (.putfield 9, 3) := by decide +kernel
theorem dX2_init_12 : decode cX2_init 12 = .ok (.aload_n 0, 1) := by decide +kernel
theorem dX2_init_13 : decode cX2_init 13 = .ok (.bipush 6, 2) := by decide +kernel
theorem dX2_init_15 : decode cX2_init 15 = .ok (.newarray .int, 2) := by decide +kernel
theorem dX2_init_17 : decode cX2_init 17 = .ok (.putfield 15, 3) := by decide +kernel
theorem dX2_init_20 : decode cX2_init 20 = .ok (.return_, 1) := by decide +kernel
theorem dX2_reckon_0 : decode cX2_reckon 0 = .ok (.aload_n 0, 1) := by decide +kernel
theorem dX2_reckon_1 : decode cX2_reckon 1 = .ok (.aload_n 1, 1) := by decide +kernel
theorem dX2_reckon_2 : decode cX2_reckon 2 = .ok (.getfield 18, 3) := by decide +kernel
theorem dX2_reckon_5 : decode cX2_reckon 5 = .ok (.iload_n 2, 1) := by decide +kernel
theorem dX2_reckon_6 : decode cX2_reckon 6 = .ok (.iaload, 1) := by decide +kernel
theorem dX2_reckon_7 : decode cX2_reckon 7 = .ok (.putfield 23, 3) := by decide +kernel
theorem dX2_reckon_10 : decode cX2_reckon 10 = .ok (.aload_n 0, 1) := by decide +kernel
theorem dX2_reckon_11 : decode cX2_reckon 11 = .ok (.aload_n 1, 1) := by decide +kernel
theorem dX2_reckon_12 : decode cX2_reckon 12 = .ok (.getfield 27, 3) := by decide +kernel
theorem dX2_reckon_15 : decode cX2_reckon 15 = .ok (.iload_n 2, 1) := by decide +kernel
theorem dX2_reckon_16 : decode cX2_reckon 16 = .ok (.iaload, 1) := by decide +kernel
theorem dX2_reckon_17 : decode cX2_reckon 17 = .ok (.putfield 30, 3) := by decide +kernel
theorem dX2_reckon_20 : decode cX2_reckon 20 = .ok (.aload_n 0, 1) := by decide +kernel
theorem dX2_reckon_21 : decode cX2_reckon 21 = .ok (.iconst 0, 1) := by decide +kernel
theorem dX2_reckon_22 : decode cX2_reckon 22 = .ok (.putfield 33, 3) := by decide +kernel
theorem dX2_reckon_25 : decode cX2_reckon 25 = .ok (.aload_n 0, 1) := by decide +kernel
theorem dX2_reckon_26 : decode cX2_reckon 26 = .ok (.iconst 0, 1) := by decide +kernel
theorem dX2_reckon_27 : decode cX2_reckon 27 = .ok (.putfield 36, 3) := by decide +kernel
theorem dX2_reckon_30 : decode cX2_reckon 30 = .ok (.aload_n 0, 1) := by decide +kernel
theorem dX2_reckon_31 : decode cX2_reckon 31 = .ok (.iconst 0, 1) := by decide +kernel
theorem dX2_reckon_32 : decode cX2_reckon 32 = .ok (.putfield 39, 3) := by decide +kernel
theorem dX2_reckon_35 : decode cX2_reckon 35 = .ok (.aload_n 0, 1) := by decide +kernel
theorem dX2_reckon_36 : decode cX2_reckon 36 = .ok (.aload_n 1, 1) := by decide +kernel
theorem dX2_reckon_37 : decode cX2_reckon 37 = .ok (.iload_n 2, 1) := by decide +kernel
theorem dX2_reckon_38 : decode cX2_reckon 38 = .ok (.invokevirtual 42, 3) := by decide +kernel
theorem dX2_reckon_41 : decode cX2_reckon 41 = .ok (.istore_n 3, 1) := by decide +kernel
theorem dX2_reckon_42 : decode cX2_reckon 42 = .ok (.aload_n 0, 1) := by decide +kernel
theorem dX2_reckon_43 : decode cX2_reckon 43 = .ok (.invokevirtual 46, 3) := by decide +kernel
theorem dX2_reckon_46 : decode cX2_reckon 46 = .ok (.iconst 0, 1) := by decide +kernel
theorem dX2_reckon_47 : decode cX2_reckon 47 = .ok (.istore 4, 2) := by decide +kernel
theorem dX2_reckon_49 : decode cX2_reckon 49 = .ok (.iload 4, 2) := by decide +kernel
theorem dX2_reckon_51 : decode cX2_reckon 51 = .ok (.iload_n 3, 1) := by decide +kernel
theorem dX2_reckon_52 : decode cX2_reckon 52 = .ok (.if_icmp .ge 21, 3) := by decide +kernel
theorem dX2_reckon_55 : decode cX2_reckon 55 = .ok (.aload_n 0, 1) := by decide +kernel
theorem dX2_reckon_56 : decode cX2_reckon 56 = .ok (.invokevirtual 49, 3) := by decide +kernel
theorem dX2_reckon_59 : decode cX2_reckon 59 = .ok (.ifCond .ne 14, 3) := by decide +kernel
theorem dX2_reckon_62 : decode cX2_reckon 62 = .ok (.aload_n 0, 1) := by decide +kernel
theorem dX2_reckon_63 : decode cX2_reckon 63 = .ok (.aload_n 1, 1) := by decide +kernel
theorem dX2_reckon_64 : decode cX2_reckon 64 = .ok (.invokevirtual 53, 3) := by decide +kernel
theorem dX2_reckon_67 : decode cX2_reckon 67 = .ok (.iinc 4 1, 3) := by decide +kernel
theorem dX2_reckon_70 : decode cX2_reckon 70 = .ok (.goto (-21), 3) := by decide +kernel
theorem dX2_reckon_73 : decode cX2_reckon 73 = .ok (.aload_n 0, 1) := by decide +kernel
theorem dX2_reckon_74 : decode cX2_reckon 74 = .ok (.invokevirtual 49, 3) := by decide +kernel
theorem dX2_reckon_77 : decode cX2_reckon 77 = .ok (.ifCond .ne 16, 3) := by decide +kernel
theorem dX2_reckon_80 : decode cX2_reckon 80 = .ok (.aload_n 0, 1) := by decide +kernel
theorem dX2_reckon_81 : decode cX2_reckon 81 = .ok (.aload_n 0, 1) := by decide +kernel
theorem dX2_reckon_82 : decode cX2_reckon 82 = .ok (.getfield 30, 3) := by decide +kernel
theorem dX2_reckon_85 : decode cX2_reckon 85 = .ok (.putfield 39, 3) := by decide +kernel
theorem dX2_reckon_88 : decode cX2_reckon 88 = .ok (.aload_n 0, 1) := by decide +kernel
theorem dX2_reckon_89 : decode cX2_reckon 89 = .ok (.iconst 0, 1) := by decide +kernel
theorem dX2_reckon_90 : decode cX2_reckon 90 = .ok (.putfield 30, 3) := by decide +kernel
theorem dX2_reckon_93 : decode cX2_reckon 93 = .ok (.return_, 1) := by decide +kernel
theorem dX2_layOutPieces_0 : decode cX2_layOutPieces 0 = .ok (.iconst 0, 1) := by decide +kernel
theorem dX2_layOutPieces_1 : decode cX2_layOutPieces 1 = .ok (.istore_n 3, 1) := by decide +kernel
theorem dX2_layOutPieces_2 : decode cX2_layOutPieces 2 = .ok (.aload_n 0, 1) := by decide +kernel
theorem dX2_layOutPieces_3 : decode cX2_layOutPieces 3 = .ok (.iconst 0, 1) := by decide +kernel
theorem dX2_layOutPieces_4 : decode cX2_layOutPieces 4 = .ok (.putfield 57, 3) := by decide +kernel
theorem dX2_layOutPieces_7 : decode cX2_layOutPieces 7 = .ok (.iconst 0, 1) := by decide +kernel
theorem dX2_layOutPieces_8 : decode cX2_layOutPieces 8 = .ok (.istore 4, 2) := by decide +kernel
theorem dX2_layOutPieces_10 : decode cX2_layOutPieces 10 = .ok (.iload 4, 2) := by decide +kernel
theorem dX2_layOutPieces_12 : decode cX2_layOutPieces 12 = .ok (.bipush 6, 2) := by decide +kernel
theorem dX2_layOutPieces_14 : decode cX2_layOutPieces 14 = .ok (.if_icmp .ge 75, 3) := by decide +kernel
theorem dX2_layOutPieces_17 : decode cX2_layOutPieces 17 = .ok (.aload_n 0, 1) := by decide +kernel
theorem dX2_layOutPieces_18 : decode cX2_layOutPieces 18 = .ok (.getfield 9, 3) := by decide +kernel
theorem dX2_layOutPieces_21 : decode cX2_layOutPieces 21 = .ok (.iload 4, 2) := by decide +kernel
theorem dX2_layOutPieces_23 : decode cX2_layOutPieces 23 = .ok (.aload_n 1, 1) := by decide +kernel
theorem dX2_layOutPieces_24 : decode cX2_layOutPieces 24 = .ok (.getfield 60, 3) := by decide +kernel
theorem dX2_layOutPieces_27 : decode cX2_layOutPieces 27 = .ok (.iload_n 2, 1) := by decide +kernel
theorem dX2_layOutPieces_28 : decode cX2_layOutPieces 28 = .ok (.iload 4, 2) := by decide +kernel
theorem dX2_layOutPieces_30 : decode cX2_layOutPieces 30 = .ok (.invokestatic 63, 3) := by decide +kernel
theorem dX2_layOutPieces_33 : decode cX2_layOutPieces 33 = .ok (.iaload, 1) := by decide +kernel
theorem dX2_layOutPieces_34 : decode cX2_layOutPieces 34 = .ok (.iastore, 1) := by decide +kernel
theorem dX2_layOutPieces_35 : decode cX2_layOutPieces 35 = .ok (.aload_n 0, 1) := by decide +kernel
theorem dX2_layOutPieces_36 : decode cX2_layOutPieces 36 = .ok (.getfield 15, 3) := by decide +kernel
theorem dX2_layOutPieces_39 : decode cX2_layOutPieces 39 = .ok (.iload 4, 2) := by decide +kernel
theorem dX2_layOutPieces_41 : decode cX2_layOutPieces 41 = .ok (.aload_n 0, 1) := by decide +kernel
theorem dX2_layOutPieces_42 : decode cX2_layOutPieces 42 = .ok (.aload_n 1, 1) := by decide +kernel
theorem dX2_layOutPieces_43 : decode cX2_layOutPieces 43 = .ok (.iload 4, 2) := by decide +kernel
theorem dX2_layOutPieces_45 : decode cX2_layOutPieces 45 = .ok (.invokevirtual 67, 3) := by decide +kernel
theorem dX2_layOutPieces_48 : decode cX2_layOutPieces 48 = .ok (.iastore, 1) := by decide +kernel
theorem dX2_layOutPieces_49 : decode cX2_layOutPieces 49 = .ok (.iload_n 3, 1) := by decide +kernel
theorem dX2_layOutPieces_50 : decode cX2_layOutPieces 50 = .ok (.aload_n 0, 1) := by decide +kernel
theorem dX2_layOutPieces_51 : decode cX2_layOutPieces 51 = .ok (.getfield 9, 3) := by decide +kernel
theorem dX2_layOutPieces_54 : decode cX2_layOutPieces 54 = .ok (.iload 4, 2) := by decide +kernel
theorem dX2_layOutPieces_56 : decode cX2_layOutPieces 56 = .ok (.iaload, 1) := by decide +kernel
theorem dX2_layOutPieces_57 : decode cX2_layOutPieces 57 = .ok (.iadd, 1) := by decide +kernel
theorem dX2_layOutPieces_58 : decode cX2_layOutPieces 58 = .ok (.istore_n 3, 1) := by decide +kernel
theorem dX2_layOutPieces_59 : decode cX2_layOutPieces 59 = .ok (.aload_n 0, 1) := by decide +kernel
theorem dX2_layOutPieces_60 : decode cX2_layOutPieces 60 = .ok (.dup, 1) := by decide +kernel
theorem dX2_layOutPieces_61 : decode cX2_layOutPieces 61 = .ok (.getfield 57, 3) := by decide +kernel
theorem dX2_layOutPieces_64 : decode cX2_layOutPieces 64 = .ok (.aload_n 0, 1) := by decide +kernel
theorem dX2_layOutPieces_65 : decode cX2_layOutPieces 65 = .ok (.getfield 9, 3) := by decide +kernel
theorem dX2_layOutPieces_68 : decode cX2_layOutPieces 68 = .ok (.iload 4, 2) := by decide +kernel
theorem dX2_layOutPieces_70 : decode cX2_layOutPieces 70 = .ok (.iaload, 1) := by decide +kernel
theorem dX2_layOutPieces_71 : decode cX2_layOutPieces 71 = .ok (.aload_n 0, 1) := by decide +kernel
theorem dX2_layOutPieces_72 : decode cX2_layOutPieces 72 = .ok (.aload_n 1, 1) := by decide +kernel
theorem dX2_layOutPieces_73 : decode cX2_layOutPieces 73 = .ok (.iload 4, 2) := by decide +kernel
theorem dX2_layOutPieces_75 : decode cX2_layOutPieces 75 = .ok (.invokevirtual 70, 3) := by decide +kernel
theorem dX2_layOutPieces_78 : decode cX2_layOutPieces 78 = .ok (.imul, 1) := by decide +kernel
theorem dX2_layOutPieces_79 : decode cX2_layOutPieces 79 = .ok (.iadd, 1) := by decide +kernel
theorem dX2_layOutPieces_80 : decode cX2_layOutPieces 80 = .ok (.putfield 57, 3) := by decide +kernel
theorem dX2_layOutPieces_83 : decode cX2_layOutPieces 83 = .ok (.iinc 4 1, 3) := by decide +kernel
theorem dX2_layOutPieces_86 : decode cX2_layOutPieces 86 = .ok (.goto (-76), 3) := by decide +kernel
theorem dX2_layOutPieces_89 : decode cX2_layOutPieces 89 = .ok (.iload_n 3, 1) := by decide +kernel
theorem dX2_layOutPieces_90 : decode cX2_layOutPieces 90 = .ok (.ireturn, 1) := by decide +kernel
theorem dX2_keyOf_0 : decode cX2_keyOf 0 = .ok (.aload_n 1, 1) := by decide +kernel
theorem dX2_keyOf_1 : decode cX2_keyOf 1 = .ok (.getfield 73, 3) := by decide +kernel
theorem dX2_keyOf_4 : decode cX2_keyOf 4 = .ok (.lookupswitch 43 #[(1, 28), (2, 36)], 28) := by decide +kernel
theorem dX2_keyOf_32 : decode cX2_keyOf 32 = .ok (.aload_n 1, 1) := by decide +kernel
theorem dX2_keyOf_33 : decode cX2_keyOf 33 = .ok (.getfield 76, 3) := by decide +kernel
theorem dX2_keyOf_36 : decode cX2_keyOf 36 = .ok (.iload_n 2, 1) := by decide +kernel
theorem dX2_keyOf_37 : decode cX2_keyOf 37 = .ok (.iaload, 1) := by decide +kernel
theorem dX2_keyOf_38 : decode cX2_keyOf 38 = .ok (.ineg, 1) := by decide +kernel
theorem dX2_keyOf_39 : decode cX2_keyOf 39 = .ok (.ireturn, 1) := by decide +kernel
theorem dX2_keyOf_40 : decode cX2_keyOf 40 = .ok (.aload_n 1, 1) := by decide +kernel
theorem dX2_keyOf_41 : decode cX2_keyOf 41 = .ok (.getfield 76, 3) := by decide +kernel
theorem dX2_keyOf_44 : decode cX2_keyOf 44 = .ok (.iload_n 2, 1) := by decide +kernel
theorem dX2_keyOf_45 : decode cX2_keyOf 45 = .ok (.iaload, 1) := by decide +kernel
theorem dX2_keyOf_46 : decode cX2_keyOf 46 = .ok (.ireturn, 1) := by decide +kernel
theorem dX2_keyOf_47 : decode cX2_keyOf 47 = .ok (.aload_n 1, 1) := by decide +kernel
theorem dX2_keyOf_48 : decode cX2_keyOf 48 = .ok (.getfield 79, 3) := by decide +kernel
theorem dX2_keyOf_51 : decode cX2_keyOf 51 = .ok (.iload_n 2, 1) := by decide +kernel
theorem dX2_keyOf_52 : decode cX2_keyOf 52 = .ok (.iaload, 1) := by decide +kernel
theorem dX2_keyOf_53 : decode cX2_keyOf 53 = .ok (.ireturn, 1) := by decide +kernel
theorem dX2_coverOfOne_0 : decode cX2_coverOfOne 0 = .ok (.aload_n 1, 1) := by decide +kernel
theorem dX2_coverOfOne_1 : decode cX2_coverOfOne 1 = .ok (.getfield 79, 3) := by decide +kernel
theorem dX2_coverOfOne_4 : decode cX2_coverOfOne 4 = .ok (.iload_n 2, 1) := by decide +kernel
theorem dX2_coverOfOne_5 : decode cX2_coverOfOne 5 = .ok (.iaload, 1) := by decide +kernel
theorem dX2_coverOfOne_6 : decode cX2_coverOfOne 6 = .ok (.bipush 100, 2) := by decide +kernel
theorem dX2_coverOfOne_8 : decode cX2_coverOfOne 8 = .ok (.aload_n 1, 1) := by decide +kernel
theorem dX2_coverOfOne_9 : decode cX2_coverOfOne 9 = .ok (.getfield 76, 3) := by decide +kernel
theorem dX2_coverOfOne_12 : decode cX2_coverOfOne 12 = .ok (.iload_n 2, 1) := by decide +kernel
theorem dX2_coverOfOne_13 : decode cX2_coverOfOne 13 = .ok (.iaload, 1) := by decide +kernel
theorem dX2_coverOfOne_14 : decode cX2_coverOfOne 14 = .ok (.isub, 1) := by decide +kernel
theorem dX2_coverOfOne_15 : decode cX2_coverOfOne 15 = .ok (.imul, 1) := by decide +kernel
theorem dX2_coverOfOne_16 : decode cX2_coverOfOne 16 = .ok (.ireturn, 1) := by decide +kernel
theorem dX2_isCovered_0 : decode cX2_isCovered 0 = .ok (.aload_n 0, 1) := by decide +kernel
theorem dX2_isCovered_1 : decode cX2_isCovered 1 = .ok (.getfield 30, 3) := by decide +kernel
theorem dX2_isCovered_4 : decode cX2_isCovered 4 = .ok (.aload_n 0, 1) := by decide +kernel
theorem dX2_isCovered_5 : decode cX2_isCovered 5 = .ok (.getfield 23, 3) := by decide +kernel
theorem dX2_isCovered_8 : decode cX2_isCovered 8 = .ok (.aload_n 0, 1) := by decide +kernel
theorem dX2_isCovered_9 : decode cX2_isCovered 9 = .ok (.getfield 57, 3) := by decide +kernel
theorem dX2_isCovered_12 : decode cX2_isCovered 12 = .ok (.bipush 100, 2) := by decide +kernel
theorem dX2_isCovered_14 : decode cX2_isCovered 14 = .ok (.idiv, 1) := by decide +kernel
theorem dX2_isCovered_15 : decode cX2_isCovered 15 = .ok (.iadd, 1) := by decide +kernel
theorem dX2_isCovered_16 : decode cX2_isCovered 16 = .ok (.if_icmp .gt 7, 3) := by decide +kernel
theorem dX2_isCovered_19 : decode cX2_isCovered 19 = .ok (.iconst 1, 1) := by decide +kernel
theorem dX2_isCovered_20 : decode cX2_isCovered 20 = .ok (.goto 4, 3) := by decide +kernel
theorem dX2_isCovered_23 : decode cX2_isCovered 23 = .ok (.iconst 0, 1) := by decide +kernel
theorem dX2_isCovered_24 : decode cX2_isCovered 24 = .ok (.ireturn, 1) := by decide +kernel
theorem dX2_payFromCoins_0 : decode cX2_payFromCoins 0 = .ok (.aload_n 0, 1) := by decide +kernel
theorem dX2_payFromCoins_1 : decode cX2_payFromCoins 1 = .ok (.getfield 23, 3) := by decide +kernel
theorem dX2_payFromCoins_4 : decode cX2_payFromCoins 4 = .ok (.istore_n 1, 1) := by decide +kernel
theorem dX2_payFromCoins_5 : decode cX2_payFromCoins 5 = .ok (.aload_n 0, 1) := by decide +kernel
theorem dX2_payFromCoins_6 : decode cX2_payFromCoins 6 = .ok (.iconst 0, 1) := by decide +kernel
theorem dX2_payFromCoins_7 : decode cX2_payFromCoins 7 = .ok (.putfield 23, 3) := by decide +kernel
theorem dX2_payFromCoins_10 : decode cX2_payFromCoins 10 = .ok (.aload_n 0, 1) := by decide +kernel
theorem dX2_payFromCoins_11 : decode cX2_payFromCoins 11 = .ok (.iload_n 1, 1) := by decide +kernel
theorem dX2_payFromCoins_12 : decode cX2_payFromCoins 12 = .ok (.invokevirtual 82, 3) := by decide +kernel
theorem dX2_payFromCoins_15 : decode cX2_payFromCoins 15 = .ok (.return_, 1) := by decide +kernel
theorem dX2_sellOne_0 : decode cX2_sellOne 0 = .ok (.aload_n 0, 1) := by decide +kernel
theorem dX2_sellOne_1 : decode cX2_sellOne 1 = .ok (.invokevirtual 86, 3) := by decide +kernel
theorem dX2_sellOne_4 : decode cX2_sellOne 4 = .ok (.istore_n 2, 1) := by decide +kernel
theorem dX2_sellOne_5 : decode cX2_sellOne 5 = .ok (.iload_n 2, 1) := by decide +kernel
theorem dX2_sellOne_6 : decode cX2_sellOne 6 = .ok (.iconst (-1), 1) := by decide +kernel
theorem dX2_sellOne_7 : decode cX2_sellOne 7 = .ok (.if_icmp .eq 59, 3) := by decide +kernel
theorem dX2_sellOne_10 : decode cX2_sellOne 10 = .ok (.aload_n 0, 1) := by decide +kernel
theorem dX2_sellOne_11 : decode cX2_sellOne 11 = .ok (.getfield 9, 3) := by decide +kernel
theorem dX2_sellOne_14 : decode cX2_sellOne 14 = .ok (.iload_n 2, 1) := by decide +kernel
theorem dX2_sellOne_15 : decode cX2_sellOne 15 = .ok (.dup2, 1) := by decide +kernel
theorem dX2_sellOne_16 : decode cX2_sellOne 16 = .ok (.iaload, 1) := by decide +kernel
theorem dX2_sellOne_17 : decode cX2_sellOne 17 = .ok (.iconst 1, 1) := by decide +kernel
theorem dX2_sellOne_18 : decode cX2_sellOne 18 = .ok (.isub, 1) := by decide +kernel
theorem dX2_sellOne_19 : decode cX2_sellOne 19 = .ok (.iastore, 1) := by decide +kernel
theorem dX2_sellOne_20 : decode cX2_sellOne 20 = .ok (.aload_n 0, 1) := by decide +kernel
theorem dX2_sellOne_21 : decode cX2_sellOne 21 = .ok (.dup, 1) := by decide +kernel
theorem dX2_sellOne_22 : decode cX2_sellOne 22 = .ok (.getfield 57, 3) := by decide +kernel
theorem dX2_sellOne_25 : decode cX2_sellOne 25 = .ok (.aload_n 0, 1) := by decide +kernel
theorem dX2_sellOne_26 : decode cX2_sellOne 26 = .ok (.aload_n 1, 1) := by decide +kernel
theorem dX2_sellOne_27 : decode cX2_sellOne 27 = .ok (.iload_n 2, 1) := by decide +kernel
theorem dX2_sellOne_28 : decode cX2_sellOne 28 = .ok (.invokevirtual 70, 3) := by decide +kernel
theorem dX2_sellOne_31 : decode cX2_sellOne 31 = .ok (.isub, 1) := by decide +kernel
theorem dX2_sellOne_32 : decode cX2_sellOne 32 = .ok (.putfield 57, 3) := by decide +kernel
theorem dX2_sellOne_35 : decode cX2_sellOne 35 = .ok (.aload_n 0, 1) := by decide +kernel
theorem dX2_sellOne_36 : decode cX2_sellOne 36 = .ok (.dup, 1) := by decide +kernel
theorem dX2_sellOne_37 : decode cX2_sellOne 37 = .ok (.getfield 33, 3) := by decide +kernel
theorem dX2_sellOne_40 : decode cX2_sellOne 40 = .ok (.iconst 1, 1) := by decide +kernel
theorem dX2_sellOne_41 : decode cX2_sellOne 41 = .ok (.iadd, 1) := by decide +kernel
theorem dX2_sellOne_42 : decode cX2_sellOne 42 = .ok (.putfield 33, 3) := by decide +kernel
theorem dX2_sellOne_45 : decode cX2_sellOne 45 = .ok (.aload_n 0, 1) := by decide +kernel
theorem dX2_sellOne_46 : decode cX2_sellOne 46 = .ok (.aload_n 1, 1) := by decide +kernel
theorem dX2_sellOne_47 : decode cX2_sellOne 47 = .ok (.getfield 79, 3) := by decide +kernel
theorem dX2_sellOne_50 : decode cX2_sellOne 50 = .ok (.iload_n 2, 1) := by decide +kernel
theorem dX2_sellOne_51 : decode cX2_sellOne 51 = .ok (.iaload, 1) := by decide +kernel
theorem dX2_sellOne_52 : decode cX2_sellOne 52 = .ok (.bipush 100, 2) := by decide +kernel
theorem dX2_sellOne_54 : decode cX2_sellOne 54 = .ok (.aload_n 1, 1) := by decide +kernel
theorem dX2_sellOne_55 : decode cX2_sellOne 55 = .ok (.getfield 90, 3) := by decide +kernel
theorem dX2_sellOne_58 : decode cX2_sellOne 58 = .ok (.isub, 1) := by decide +kernel
theorem dX2_sellOne_59 : decode cX2_sellOne 59 = .ok (.imul, 1) := by decide +kernel
theorem dX2_sellOne_60 : decode cX2_sellOne 60 = .ok (.bipush 100, 2) := by decide +kernel
theorem dX2_sellOne_62 : decode cX2_sellOne 62 = .ok (.idiv, 1) := by decide +kernel
theorem dX2_sellOne_63 : decode cX2_sellOne 63 = .ok (.invokevirtual 82, 3) := by decide +kernel
theorem dX2_sellOne_66 : decode cX2_sellOne 66 = .ok (.return_, 1) := by decide +kernel
theorem dX2_firstKind_0 : decode cX2_firstKind 0 = .ok (.iconst (-1), 1) := by decide +kernel
theorem dX2_firstKind_1 : decode cX2_firstKind 1 = .ok (.istore_n 1, 1) := by decide +kernel
theorem dX2_firstKind_2 : decode cX2_firstKind 2 = .ok (.iconst 0, 1) := by decide +kernel
theorem dX2_firstKind_3 : decode cX2_firstKind 3 = .ok (.istore_n 2, 1) := by decide +kernel
theorem dX2_firstKind_4 : decode cX2_firstKind 4 = .ok (.iload_n 2, 1) := by decide +kernel
theorem dX2_firstKind_5 : decode cX2_firstKind 5 = .ok (.bipush 6, 2) := by decide +kernel
theorem dX2_firstKind_7 : decode cX2_firstKind 7 = .ok (.if_icmp .ge 40, 3) := by decide +kernel
theorem dX2_firstKind_10 : decode cX2_firstKind 10 = .ok (.aload_n 0, 1) := by decide +kernel
theorem dX2_firstKind_11 : decode cX2_firstKind 11 = .ok (.getfield 9, 3) := by decide +kernel
theorem dX2_firstKind_14 : decode cX2_firstKind 14 = .ok (.iload_n 2, 1) := by decide +kernel
theorem dX2_firstKind_15 : decode cX2_firstKind 15 = .ok (.iaload, 1) := by decide +kernel
theorem dX2_firstKind_16 : decode cX2_firstKind 16 = .ok (.ifCond .le 25, 3) := by decide +kernel
theorem dX2_firstKind_19 : decode cX2_firstKind 19 = .ok (.iload_n 1, 1) := by decide +kernel
theorem dX2_firstKind_20 : decode cX2_firstKind 20 = .ok (.iconst (-1), 1) := by decide +kernel
theorem dX2_firstKind_21 : decode cX2_firstKind 21 = .ok (.if_icmp .eq 18, 3) := by decide +kernel
theorem dX2_firstKind_24 : decode cX2_firstKind 24 = .ok (.aload_n 0, 1) := by decide +kernel
theorem dX2_firstKind_25 : decode cX2_firstKind 25 = .ok (.getfield 15, 3) := by decide +kernel
theorem dX2_firstKind_28 : decode cX2_firstKind 28 = .ok (.iload_n 2, 1) := by decide +kernel
theorem dX2_firstKind_29 : decode cX2_firstKind 29 = .ok (.iaload, 1) := by decide +kernel
theorem dX2_firstKind_30 : decode cX2_firstKind 30 = .ok (.aload_n 0, 1) := by decide +kernel
theorem dX2_firstKind_31 : decode cX2_firstKind 31 = .ok (.getfield 15, 3) := by decide +kernel
theorem dX2_firstKind_34 : decode cX2_firstKind 34 = .ok (.iload_n 1, 1) := by decide +kernel
theorem dX2_firstKind_35 : decode cX2_firstKind 35 = .ok (.iaload, 1) := by decide +kernel
theorem dX2_firstKind_36 : decode cX2_firstKind 36 = .ok (.if_icmp .le 5, 3) := by decide +kernel
theorem dX2_firstKind_39 : decode cX2_firstKind 39 = .ok (.iload_n 2, 1) := by decide +kernel
theorem dX2_firstKind_40 : decode cX2_firstKind 40 = .ok (.istore_n 1, 1) := by decide +kernel
theorem dX2_firstKind_41 : decode cX2_firstKind 41 = .ok (.iinc 2 1, 3) := by decide +kernel
theorem dX2_firstKind_44 : decode cX2_firstKind 44 = .ok (.goto (-40), 3) := by decide +kernel
theorem dX2_firstKind_47 : decode cX2_firstKind 47 = .ok (.iload_n 1, 1) := by decide +kernel
theorem dX2_firstKind_48 : decode cX2_firstKind 48 = .ok (.ireturn, 1) := by decide +kernel
theorem dX2_payWith_0 : decode cX2_payWith 0 = .ok (.iload_n 1, 1) := by decide +kernel
theorem dX2_payWith_1 : decode cX2_payWith 1 = .ok (.aload_n 0, 1) := by decide +kernel
theorem dX2_payWith_2 : decode cX2_payWith 2 = .ok (.getfield 30, 3) := by decide +kernel
theorem dX2_payWith_5 : decode cX2_payWith 5 = .ok (.if_icmp .ge 7, 3) := by decide +kernel
theorem dX2_payWith_8 : decode cX2_payWith 8 = .ok (.iload_n 1, 1) := by decide +kernel
theorem dX2_payWith_9 : decode cX2_payWith 9 = .ok (.goto 7, 3) := by decide +kernel
theorem dX2_payWith_12 : decode cX2_payWith 12 = .ok (.aload_n 0, 1) := by decide +kernel
theorem dX2_payWith_13 : decode cX2_payWith 13 = .ok (.getfield 30, 3) := by decide +kernel
theorem dX2_payWith_16 : decode cX2_payWith 16 = .ok (.istore_n 2, 1) := by decide +kernel
theorem dX2_payWith_17 : decode cX2_payWith 17 = .ok (.aload_n 0, 1) := by decide +kernel
theorem dX2_payWith_18 : decode cX2_payWith 18 = .ok (.dup, 1) := by decide +kernel
theorem dX2_payWith_19 : decode cX2_payWith 19 = .ok (.getfield 30, 3) := by decide +kernel
theorem dX2_payWith_22 : decode cX2_payWith 22 = .ok (.iload_n 2, 1) := by decide +kernel
theorem dX2_payWith_23 : decode cX2_payWith 23 = .ok (.isub, 1) := by decide +kernel
theorem dX2_payWith_24 : decode cX2_payWith 24 = .ok (.putfield 30, 3) := by decide +kernel
theorem dX2_payWith_27 : decode cX2_payWith 27 = .ok (.aload_n 0, 1) := by decide +kernel
theorem dX2_payWith_28 : decode cX2_payWith 28 = .ok (.dup, 1) := by decide +kernel
theorem dX2_payWith_29 : decode cX2_payWith 29 = .ok (.getfield 36, 3) := by decide +kernel
theorem dX2_payWith_32 : decode cX2_payWith 32 = .ok (.iload_n 2, 1) := by decide +kernel
theorem dX2_payWith_33 : decode cX2_payWith 33 = .ok (.iadd, 1) := by decide +kernel
theorem dX2_payWith_34 : decode cX2_payWith 34 = .ok (.putfield 36, 3) := by decide +kernel
theorem dX2_payWith_37 : decode cX2_payWith 37 = .ok (.aload_n 0, 1) := by decide +kernel
theorem dX2_payWith_38 : decode cX2_payWith 38 = .ok (.dup, 1) := by decide +kernel
theorem dX2_payWith_39 : decode cX2_payWith 39 = .ok (.getfield 23, 3) := by decide +kernel
theorem dX2_payWith_42 : decode cX2_payWith 42 = .ok (.iload_n 1, 1) := by decide +kernel
theorem dX2_payWith_43 : decode cX2_payWith 43 = .ok (.iload_n 2, 1) := by decide +kernel
theorem dX2_payWith_44 : decode cX2_payWith 44 = .ok (.isub, 1) := by decide +kernel
theorem dX2_payWith_45 : decode cX2_payWith 45 = .ok (.iadd, 1) := by decide +kernel
theorem dX2_payWith_46 : decode cX2_payWith 46 = .ok (.putfield 23, 3) := by decide +kernel
theorem dX2_payWith_49 : decode cX2_payWith 49 = .ok (.return_, 1) := by decide +kernel
