theorem dX8_remember_14 : decode cX8_remember 14 = .ok (.aload_n 0, 1) := by decide +kernel
theorem dX8_remember_15 : decode cX8_remember 15 = .ok (.getfield 18, 3) := by decide +kernel
theorem dX8_remember_18 : decode cX8_remember 18 = .ok (.iconst 1, 1) := by decide +kernel
theorem dX8_remember_19 : decode cX8_remember 19 = .ok (.iadd, 1) := by decide +kernel
theorem dX8_remember_20 : decode cX8_remember 20 = .ok (.bipush 12, 2) := by decide +kernel
theorem dX8_remember_22 : decode cX8_remember 22 = .ok (.irem, 1) := by decide +kernel
theorem dX8_remember_23 : decode cX8_remember 23 = .ok (.putfield 18, 3) := by decide +kernel
theorem dX8_remember_26 : decode cX8_remember 26 = .ok (.aload_n 0, 1) := by decide +kernel
theorem dX8_remember_27 : decode cX8_remember 27 = .ok (.bipush 12, 2) := by decide +kernel
theorem dX8_remember_29 : decode cX8_remember 29 = .ok (.aload_n 0, 1) := by decide +kernel
theorem dX8_remember_30 : decode cX8_remember 30 = .ok (.getfield 26, 3) := by decide +kernel
theorem dX8_remember_33 : decode cX8_remember 33 = .ok (.iconst 1, 1) := by decide +kernel
theorem dX8_remember_34 : decode cX8_remember 34 = .ok (.iadd, 1) := by decide +kernel
theorem dX8_remember_35 : decode cX8_remember 35 = .ok (.invokestatic 29, 3) := by decide +kernel
theorem dX8_remember_38 : decode cX8_remember 38 = .ok (.putfield 26, 3) := by decide +kernel
theorem dX8_remember_41 : decode cX8_remember 41 = .ok (.return_, 1) := by decide +kernel
theorem dX8_recall_0 : decode cX8_recall 0 = .ok (.aload_n 0, 1) := by decide +kernel
theorem dX8_recall_1 : decode cX8_recall 1 = .ok (.getfield 26, 3) := by decide +kernel
theorem dX8_recall_4 : decode cX8_recall 4 = .ok (.ifCond .ne 5, 3) := by decide +kernel
theorem dX8_recall_7 : decode cX8_recall 7 = .ok (.iconst 0, 1) := by decide +kernel
theorem dX8_recall_8 : decode cX8_recall 8 = .ok (.ireturn, 1) := by decide +kernel
theorem dX8_recall_9 : decode cX8_recall 9 = .ok (.aload_n 0, 1) := by decide +kernel
theorem dX8_recall_10 : decode cX8_recall 10 = .ok (.aload_n 0, 1) := by decide +kernel
theorem dX8_recall_11 : decode cX8_recall 11 = .ok (.getfield 18, 3) := by decide +kernel
theorem dX8_recall_14 : decode cX8_recall 14 = .ok (.bipush 12, 2) := by decide +kernel
theorem dX8_recall_16 : decode cX8_recall 16 = .ok (.iadd, 1) := by decide +kernel
theorem dX8_recall_17 : decode cX8_recall 17 = .ok (.iconst 1, 1) := by decide +kernel
theorem dX8_recall_18 : decode cX8_recall 18 = .ok (.isub, 1) := by decide +kernel
theorem dX8_recall_19 : decode cX8_recall 19 = .ok (.bipush 12, 2) := by decide +kernel
theorem dX8_recall_21 : decode cX8_recall 21 = .ok (.irem, 1) := by decide +kernel
theorem dX8_recall_22 : decode cX8_recall 22 = .ok (.putfield 18, 3) := by decide +kernel
theorem dX8_recall_25 : decode cX8_recall 25 = .ok (.aload_n 0, 1) := by decide +kernel
theorem dX8_recall_26 : decode cX8_recall 26 = .ok (.dup, 1) := by decide +kernel
theorem dX8_recall_27 : decode cX8_recall 27 = .ok (.getfield 26, 3) := by decide +kernel
theorem dX8_recall_30 : decode cX8_recall 30 = .ok (.iconst 1, 1) := by decide +kernel
theorem dX8_recall_31 : decode cX8_recall 31 = .ok (.isub, 1) := by decide +kernel
theorem dX8_recall_32 : decode cX8_recall 32 = .ok (.putfield 26, 3) := by decide +kernel
theorem dX8_recall_35 : decode cX8_recall 35 = .ok (.aload_n 1, 1) := by decide +kernel
theorem dX8_recall_36 : decode cX8_recall 36 = .ok (.aload_n 0, 1) := by decide +kernel
theorem dX8_recall_37 : decode cX8_recall 37 = .ok (.getfield 11, 3) := by decide +kernel
theorem dX8_recall_40 : decode cX8_recall 40 = .ok (.aload_n 0, 1) := by decide +kernel
theorem dX8_recall_41 : decode cX8_recall 41 = .ok (.getfield 18, 3) := by decide +kernel
theorem dX8_recall_44 : decode cX8_recall 44 = .ok (.aaload, 1) := by decide +kernel
theorem dX8_recall_45 : decode cX8_recall 45 = .ok (.invokevirtual 22, 3) := by decide +kernel
theorem dX8_recall_48 : decode cX8_recall 48 = .ok (.iconst 1, 1) := by decide +kernel
theorem dX8_recall_49 : decode cX8_recall 49 = .ok (.ireturn, 1) := by decide +kernel
theorem dX8_forget_0 : decode cX8_forget 0 = .ok (.aload_n 0, 1) := by decide +kernel
theorem dX8_forget_1 : decode cX8_forget 1 = .ok (.iconst 0, 1) := by decide +kernel
theorem dX8_forget_2 : decode cX8_forget 2 = .ok (.putfield 26, 3) := by decide +kernel
theorem dX8_forget_5 : decode cX8_forget 5 = .ok (.return_, 1) := by decide +kernel
theorem dX9_init_0 : decode cX9_init 0 = .ok (.aload_n 0, 1) := by decide +kernel
theorem dX9_init_1 : decode cX9_init 1 = .ok (.invokespecial 3, 3) := by decide +kernel
theorem dX9_init_4 : decode cX9_init 4 = .ok (.aload_n 0, 1) := by decide +kernel
theorem dX9_init_5 : decode cX9_init 5 = .ok (.bipush 8, 2) := by decide +kernel
theorem dX9_init_7 : decode cX9_init 7 = .ok (.newarray .int, 2) := by decide +kernel
theorem dX9_init_9 : decode cX9_init 9 = .ok (.putfield 9, 3) := by decide +kernel
theorem dX9_init_12 : decode cX9_init 12 = .ok (.aload_n 0, 1) := by decide +kernel
theorem dX9_init_13 : decode cX9_init 13 = .ok (.bipush 56, 2) := by decide +kernel
theorem dX9_init_15 : decode cX9_init 15 = .ok (.newarray .int, 2) := by decide +kernel
theorem dX9_init_17 : decode cX9_init 17 = .ok (.putfield 15, 3) := by decide +kernel
theorem dX9_init_20 : decode cX9_init 20 = .ok (.aload_n 0, 1) := by decide +kernel
theorem dX9_init_21 : decode cX9_init 21 = .ok (.bipush 8, 2) := by decide +kernel
theorem dX9_init_23 : decode cX9_init 23 = .ok (.newarray .int, 2) := by decide +kernel
theorem dX9_init_25 : decode cX9_init 25 = .ok (.putfield 18, 3) := by decide +kernel
theorem dX9_init_28 : decode cX9_init 28 = .ok (.aload_n 0, 1) := by decide +kernel
theorem dX9_init_29 : decode cX9_init 29 = .ok (.bipush 8, 2) := by decide +kernel
theorem dX9_init_31 : decode cX9_init 31 = .ok (.newarray .int, 2) := by decide +kernel
theorem dX9_init_33 : decode cX9_init 33 = .ok (.putfield 21, 3) := by decide +kernel
theorem dX9_init_36 : decode cX9_init 36 = .ok (.aload_n 0, 1) := by decide +kernel
theorem dX9_init_37 : decode cX9_init 37 = .ok (.bipush 8, 2) := by decide +kernel
theorem dX9_init_39 : decode cX9_init 39 = .ok (.newarray .int, 2) := by decide +kernel
theorem dX9_init_41 : decode cX9_init 41 = .ok (.putfield 24, 3) := by decide +kernel
theorem dX9_init_44 : decode cX9_init 44 = .ok (.aload_n 0, 1) := by decide +kernel
theorem dX9_init_45 : decode cX9_init 45 = .ok (.bipush 8, 2) := by decide +kernel
theorem dX9_init_47 : decode cX9_init 47 = .ok (.newarray .int, 2) := by decide +kernel
theorem dX9_init_49 : decode cX9_init 49 = .ok (.putfield 27, 3) := by decide +kernel
theorem dX9_init_52 : decode cX9_init 52 = .ok (.aload_n 0, 1) := by decide +kernel
theorem dX9_init_53 : decode cX9_init 53 = .ok (.bipush 64, 2) := by decide +kernel
theorem dX9_init_55 : decode cX9_init 55 = .ok (.newarray .int, 2) := by decide +kernel
theorem dX9_init_57 : decode cX9_init 57 = .ok (.putfield 30, 3) := by decide +kernel
theorem dX9_init_60 : decode cX9_init 60 = .ok (.aload_n 0, 1) := by decide +kernel
theorem dX9_init_61 : decode cX9_init 61 = .ok (.sipush 999, 3) := by decide +kernel
theorem dX9_init_64 : decode cX9_init 64 = .ok (.putfield 33, 3) := by decide +kernel
theorem dX9_init_67 : decode cX9_init 67 = .ok (.aload_n 0, 1) := by decide +kernel
theorem dX9_init_68 : decode cX9_init 68 = .ok (.iconst 2, 1) := by decide +kernel
theorem dX9_init_69 : decode cX9_init 69 = .ok (.putfield 37, 3) := by decide +kernel
theorem dX9_init_72 : decode cX9_init 72 = .ok (.aload_n 0, 1) := by decide +kernel
theorem dX9_init_73 : decode cX9_init 73 = .ok (.iconst 1, 1) := by decide +kernel
theorem dX9_init_74 : decode cX9_init 74 = .ok (.putfield 40, 3) := by decide +kernel
theorem dX9_init_77 : decode cX9_init 77 = .ok (.aload_n 0, 1) := by decide +kernel
theorem dX9_init_78 : decode cX9_init 78 = .ok (.new 43, 3) := by decide +kernel
theorem dX9_init_81 : decode cX9_init 81 = .ok (.dup, 1) := by decide +kernel
theorem dX9_init_82 : decode cX9_init 82 = .ok (.invokespecial 45, 3) := by decide +kernel
theorem dX9_init_85 : decode cX9_init 85 = .ok (.putfield 46, 3) := by decide +kernel
theorem dX9_init_88 : decode cX9_init 88 = .ok (.return_, 1) := by decide +kernel
theorem dX9_takeAllFrom_0 : decode cX9_takeAllFrom 0 = .ok (.aload_n 0, 1) := by decide +kernel
theorem dX9_takeAllFrom_1 : decode cX9_takeAllFrom 1 = .ok (.aload_n 1, 1) := by decide +kernel
theorem dX9_takeAllFrom_2 : decode cX9_takeAllFrom 2 = .ok (.invokevirtual 50, 3) := by decide +kernel
theorem dX9_takeAllFrom_5 : decode cX9_takeAllFrom 5 = .ok (.aload_n 0, 1) := by decide +kernel
theorem dX9_takeAllFrom_6 : decode cX9_takeAllFrom 6 = .ok (.getfield 46, 3) := by decide +kernel
theorem dX9_takeAllFrom_9 : decode cX9_takeAllFrom 9 = .ok (.aload_n 1, 1) := by decide +kernel
theorem dX9_takeAllFrom_10 : decode cX9_takeAllFrom 10 = .ok (.getfield 46, 3) := by decide +kernel
theorem dX9_takeAllFrom_13 : decode cX9_takeAllFrom 13 = .ok (.invokevirtual 54, 3) := by decide +kernel
theorem dX9_takeAllFrom_16 : decode cX9_takeAllFrom 16 = .ok (.return_, 1) := by decide +kernel
theorem dX9_takeFrom_0 : decode cX9_takeFrom 0 = .ok (.aload_n 0, 1) := by decide +kernel
theorem dX9_takeFrom_1 : decode cX9_takeFrom 1 = .ok (.aload_n 1, 1) := by decide +kernel
theorem dX9_takeFrom_2 : decode cX9_takeFrom 2 = .ok (.getfield 57, 3) := by decide +kernel
theorem dX9_takeFrom_5 : decode cX9_takeFrom 5 = .ok (.putfield 57, 3) := by decide +kernel
theorem dX9_takeFrom_8 : decode cX9_takeFrom 8 = .ok (.aload_n 0, 1) := by decide +kernel
theorem dX9_takeFrom_9 : decode cX9_takeFrom 9 = .ok (.aload_n 1, 1) := by decide +kernel
theorem dX9_takeFrom_10 : decode cX9_takeFrom 10 = .ok (.getfield 60, 3) := by decide +kernel
theorem dX9_takeFrom_13 : decode cX9_takeFrom 13 = .ok (.putfield 60, 3) := by decide +kernel
theorem dX9_takeFrom_16 : decode cX9_takeFrom 16 = .ok (.aload_n 1, 1) := by decide +kernel
theorem dX9_takeFrom_17 : decode cX9_takeFrom 17 = .ok (.getfield 9, 3) := by decide +kernel
theorem dX9_takeFrom_20 : decode cX9_takeFrom 20 = .ok (.iconst 0, 1) := by decide +kernel
theorem dX9_takeFrom_21 : decode cX9_takeFrom 21 = .ok (.aload_n 0, 1) := by decide +kernel
theorem dX9_takeFrom_22 : decode cX9_takeFrom 22 = .ok (.getfield 9, 3) := by decide +kernel
theorem dX9_takeFrom_25 : decode cX9_takeFrom 25 = .ok (.iconst 0, 1) := by decide +kernel
theorem dX9_takeFrom_26 : decode cX9_takeFrom 26 = .ok (.bipush 8, 2) := by decide +kernel
theorem dX9_takeFrom_28 : decode cX9_takeFrom 28 = .ok (.invokestatic 63, 3) := by decide +kernel
theorem dX9_takeFrom_31 : decode cX9_takeFrom 31 = .ok (.aload_n 1, 1) := by decide +kernel
theorem dX9_takeFrom_32 : decode cX9_takeFrom 32 = .ok (.getfield 15, 3) := by decide +kernel
theorem dX9_takeFrom_35 : decode cX9_takeFrom 35 = .ok (.iconst 0, 1) := by decide +kernel
theorem dX9_takeFrom_36 : decode cX9_takeFrom 36 = .ok (.aload_n 0, 1) := by decide +kernel
theorem dX9_takeFrom_37 : decode cX9_takeFrom 37 = .ok (.getfield 15, 3) := by decide +kernel
theorem dX9_takeFrom_40 : decode cX9_takeFrom 40 = .ok (.iconst 0, 1) := by decide +kernel
theorem dX9_takeFrom_41 : decode cX9_takeFrom 41 = .ok (.bipush 56, 2) := by decide +kernel
theorem dX9_takeFrom_43 : decode cX9_takeFrom 43 = .ok (.invokestatic 63, 3) := by decide +kernel
theorem dX9_takeFrom_46 : decode cX9_takeFrom 46 = .ok (.aload_n 1, 1) := by decide +kernel
theorem dX9_takeFrom_47 : decode cX9_takeFrom 47 = .ok (.getfield 18, 3) := by decide +kernel
theorem dX9_takeFrom_50 : decode cX9_takeFrom 50 = .ok (.iconst 0, 1) := by decide +kernel
theorem dX9_takeFrom_51 : decode cX9_takeFrom 51 = .ok (.aload_n 0, 1) := by decide +kernel
theorem dX9_takeFrom_52 : decode cX9_takeFrom 52 = .ok (.getfield 18, 3) := by decide +kernel
theorem dX9_takeFrom_55 : decode cX9_takeFrom 55 = .ok (.iconst 0, 1) := by decide +kernel
theorem dX9_takeFrom_56 : decode cX9_takeFrom 56 = .ok (.bipush 8, 2) := by decide +kernel
theorem dX9_takeFrom_58 : decode cX9_takeFrom 58 = .ok (.invokestatic 63, 3) := by decide +kernel
theorem dX9_takeFrom_61 : decode cX9_takeFrom 61 = .ok (.aload_n 1, 1) := by decide +kernel
theorem dX9_takeFrom_62 : decode cX9_takeFrom 62 = .ok (.getfield 21, 3) := by decide +kernel
theorem dX9_takeFrom_65 : decode cX9_takeFrom 65 = .ok (.iconst 0, 1) := by decide +kernel
theorem dX9_takeFrom_66 : decode cX9_takeFrom 66 = .ok (.aload_n 0, 1) := by decide +kernel
theorem dX9_takeFrom_67 : decode cX9_takeFrom 67 = .ok (.getfield 21, 3) := by decide +kernel
theorem dX9_takeFrom_70 : decode cX9_takeFrom 70 = .ok (.iconst 0, 1) := by decide +kernel
theorem dX9_takeFrom_71 : decode cX9_takeFrom 71 = .ok (.bipush 8, 2) := by decide +kernel
theorem dX9_takeFrom_73 : decode cX9_takeFrom 73 = .ok (.invokestatic 63, 3) := by decide +kernel
theorem dX9_takeFrom_76 : decode cX9_takeFrom 76 = .ok (.aload_n 1, 1) := by decide +kernel
theorem dX9_takeFrom_77 : decode cX9_takeFrom 77 = .ok (.getfield 24, 3) := by decide +kernel
theorem dX9_takeFrom_80 : decode cX9_takeFrom 80 = .ok (.iconst 0, 1) := by decide +kernel
theorem dX9_takeFrom_81 : decode cX9_takeFrom 81 = .ok (.aload_n 0, 1) := by decide +kernel
theorem dX9_takeFrom_82 : decode cX9_takeFrom 82 = .ok (.getfield 24, 3) := by decide +kernel
theorem dX9_takeFrom_85 : decode cX9_takeFrom 85 = .ok (.iconst 0, 1) := by decide +kernel
theorem dX9_takeFrom_86 : decode cX9_takeFrom 86 = .ok (.bipush 8, 2) := by decide +kernel
theorem dX9_takeFrom_88 : decode cX9_takeFrom 88 = .ok (.invokestatic 63, 3) := by decide +kernel
theorem dX9_takeFrom_91 : decode cX9_takeFrom 91 = .ok (.aload_n 1, 1) := by decide +kernel
theorem dX9_takeFrom_92 : decode cX9_takeFrom 92 = .ok (.getfield 27, 3) := by decide +kernel
theorem dX9_takeFrom_95 : decode cX9_takeFrom 95 = .ok (.iconst 0, 1) := by decide +kernel
theorem dX9_takeFrom_96 : decode cX9_takeFrom 96 = .ok (.aload_n 0, 1) := by decide +kernel
theorem dX9_takeFrom_97 : decode cX9_takeFrom 97 = .ok (.getfield 27, 3) := by decide +kernel
theorem dX9_takeFrom_100 : decode cX9_takeFrom 100 = .ok (.iconst 0, 1) := by decide +kernel
theorem dX9_takeFrom_101 : decode cX9_takeFrom 101 = .ok (.bipush 8, 2) := by decide +kernel
theorem dX9_takeFrom_103 : decode cX9_takeFrom 103 = .ok (.invokestatic 63, 3) := by decide +kernel
theorem dX9_takeFrom_106 : decode cX9_takeFrom 106 = .ok (.aload_n 1, 1) := by decide +kernel
theorem dX9_takeFrom_107 : decode cX9_takeFrom 107 = .ok (.getfield 30, 3) := by decide +kernel
theorem dX9_takeFrom_110 : decode cX9_takeFrom 110 = .ok (.iconst 0, 1) := by decide +kernel
theorem dX9_takeFrom_111 : decode cX9_takeFrom 111 = .ok (.aload_n 0, 1) := by decide +kernel
theorem dX9_takeFrom_112 : decode cX9_takeFrom 112 = .ok (.getfield 30, 3) := by decide +kernel
theorem dX9_takeFrom_115 : decode cX9_takeFrom 115 = .ok (.iconst 0, 1) := by decide +kernel
theorem dX9_takeFrom_116 : decode cX9_takeFrom 116 = .ok (.bipush 64, 2) := by decide +kernel
theorem dX9_takeFrom_118 : decode cX9_takeFrom 118 = .ok (.invokestatic 63, 3) := by decide +kernel
theorem dX9_takeFrom_121 : decode cX9_takeFrom 121 = .ok (.aload_n 0, 1) := by decide +kernel
theorem dX9_takeFrom_122 : decode cX9_takeFrom 122 = .ok (.aload_n 1, 1) := by decide +kernel
theorem dX9_takeFrom_123 : decode cX9_takeFrom 123 = .ok (.getfield 33, 3) := by decide +kernel
theorem dX9_takeFrom_126 : decode cX9_takeFrom 126 = .ok (.putfield 33, 3) := by decide +kernel
theorem dX9_takeFrom_129 : decode cX9_takeFrom 129 = .ok (.aload_n 0, 1) := by decide +kernel
theorem dX9_takeFrom_130 : decode cX9_takeFrom 130 = .ok (.aload_n 1, 1) := by decide +kernel
theorem dX9_takeFrom_131 : decode cX9_takeFrom 131 = .ok (.getfield 37, 3) := by decide +kernel
theorem dX9_takeFrom_134 : decode cX9_takeFrom 134 = .ok (.putfield 37, 3) := by decide +kernel
theorem dX9_takeFrom_137 : decode cX9_takeFrom 137 = .ok (.aload_n 0, 1) := by decide +kernel
theorem dX9_takeFrom_138 : decode cX9_takeFrom 138 = .ok (.aload_n 1, 1) := by decide +kernel
theorem dX9_takeFrom_139 : decode cX9_takeFrom 139 = .ok (.getfield 69, 3) := by decide +kernel
theorem dX9_takeFrom_142 : decode cX9_takeFrom 142 = .ok (.putfield 69, 3) := by decide +kernel
theorem dX9_takeFrom_145 : decode cX9_takeFrom 145 = .ok (.aload_n 0, 1) := by decide +kernel
theorem dX9_takeFrom_146 : decode cX9_takeFrom 146 = .ok (.aload_n 1, 1) := by decide +kernel
theorem dX9_takeFrom_147 : decode cX9_takeFrom 147 = .ok (.getfield 72, 3) := by decide +kernel
theorem dX9_takeFrom_150 : decode cX9_takeFrom 150 = .ok (.putfield 72, 3) := by decide +kernel
theorem dX9_takeFrom_153 : decode cX9_takeFrom 153 = .ok (.aload_n 0, 1) := by decide +kernel
theorem dX9_takeFrom_154 : decode cX9_takeFrom 154 = .ok (.aload_n 1, 1) := by decide +kernel
theorem dX9_takeFrom_155 : decode cX9_takeFrom 155 = .ok (.getfield 75, 3) := by decide +kernel
theorem dX9_takeFrom_158 : decode cX9_takeFrom 158 = .ok (.putfield 75, 3) := by decide +kernel
theorem dX9_takeFrom_161 : decode cX9_takeFrom 161 = .ok (.aload_n 0, 1) := by decide +kernel
theorem dX9_takeFrom_162 : decode cX9_takeFrom 162 = .ok (.aload_n 1, 1) := by decide +kernel
theorem dX9_takeFrom_163 : decode cX9_takeFrom 163 = .ok (.getfield 40, 3) := by decide +kernel
theorem dX9_takeFrom_166 : decode cX9_takeFrom 166 = .ok (.putfield 40, 3) := by decide +kernel
theorem dX9_takeFrom_169 : decode cX9_takeFrom 169 = .ok (.aload_n 0, 1) := by decide +kernel
theorem dX9_takeFrom_170 : decode cX9_takeFrom 170 = .ok (.aload_n 1, 1) := by decide +kernel
theorem dX9_takeFrom_171 : decode cX9_takeFrom 171 = .ok (.getfield 78, 3) := by decide +kernel
theorem dX9_takeFrom_174 : decode cX9_takeFrom 174 = .ok (.putfield 78, 3) := by decide +kernel
theorem dX9_takeFrom_177 : decode cX9_takeFrom 177 = .ok (.aload_n 0, 1) := by decide +kernel
theorem dX9_takeFrom_178 : decode cX9_takeFrom 178 = .ok (.aload_n 1, 1) := by decide +kernel
theorem dX9_takeFrom_179 : decode cX9_takeFrom 179 = .ok (.getfield 81, 3) := by decide +kernel
theorem dX9_takeFrom_182 : decode cX9_takeFrom 182 = .ok (.putfield 81, 3) := by decide +kernel
theorem dX9_takeFrom_185 : decode cX9_takeFrom 185 = .ok (.aload_n 0, 1) := by decide +kernel
theorem dX9_takeFrom_186 : decode cX9_takeFrom 186 = .ok (.aload_n 1, 1) := by decide +kernel
theorem dX9_takeFrom_187 : decode cX9_takeFrom 187 = .ok (.getfield 84, 3) := by decide +kernel
theorem dX9_takeFrom_190 : decode cX9_takeFrom 190 = .ok (.putfield 84, 3) := by decide +kernel
theorem dX9_takeFrom_193 : decode cX9_takeFrom 193 = .ok (.aload_n 0, 1) := by decide +kernel
theorem dX9_takeFrom_194 : decode cX9_takeFrom 194 = .ok (.aload_n 1, 1) := by decide +kernel
theorem dX9_takeFrom_195 : decode cX9_takeFrom 195 = .ok (.getfield 88, 3) := by decide +kernel
theorem dX9_takeFrom_198 : decode cX9_takeFrom 198 = .ok (.putfield 88, 3) := by decide +kernel
theorem dX9_takeFrom_201 : decode cX9_takeFrom 201 = .ok (.return_, 1) := by decide +kernel
theorem dX9_everybody_0 : decode cX9_everybody 0 = .ok (.iconst 1, 1) := by decide +kernel
theorem dX9_everybody_1 : decode cX9_everybody 1 = .ok (.aload_n 0, 1) := by decide +kernel
theorem dX9_everybody_2 : decode cX9_everybody 2 = .ok (.getfield 57, 3) := by decide +kernel
theorem dX9_everybody_5 : decode cX9_everybody 5 = .ok (.ishl, 1) := by decide +kernel
theorem dX9_everybody_6 : decode cX9_everybody 6 = .ok (.iconst 1, 1) := by decide +kernel
theorem dX9_everybody_7 : decode cX9_everybody 7 = .ok (.isub, 1) := by decide +kernel
theorem dX9_everybody_8 : decode cX9_everybody 8 = .ok (.ireturn, 1) := by decide +kernel
theorem dX9_isAlive_0 : decode cX9_isAlive 0 = .ok (.iload_n 1, 1) := by decide +kernel
theorem dX9_isAlive_1 : decode cX9_isAlive 1 = .ok (.ifCond .lt 27, 3) := by decide +kernel
theorem dX9_isAlive_4 : decode cX9_isAlive 4 = .ok (.iload_n 1, 1) := by decide +kernel
theorem dX9_isAlive_5 : decode cX9_isAlive 5 = .ok (.aload_n 0, 1) := by decide +kernel
theorem dX9_isAlive_6 : decode cX9_isAlive 6 = .ok (.getfield 57, 3) := by decide +kernel
theorem dX9_isAlive_9 : decode cX9_isAlive 9 = .ok (.if_icmp .ge 19, 3) := by decide +kernel
theorem dX9_isAlive_12 : decode cX9_isAlive 12 = .ok (.aload_n 0, 1) := by decide +kernel
theorem dX9_isAlive_13 : decode cX9_isAlive 13 = .ok (.getfield 60, 3) := by decide +kernel
theorem dX9_isAlive_16 : decode cX9_isAlive 16 = .ok (.iload_n 1, 1) := by decide +kernel
theorem dX9_isAlive_17 : decode cX9_isAlive 17 = .ok (.ishr, 1) := by decide +kernel
theorem dX9_isAlive_18 : decode cX9_isAlive 18 = .ok (.iconst 1, 1) := by decide +kernel
theorem dX9_isAlive_19 : decode cX9_isAlive 19 = .ok (.iand, 1) := by decide +kernel
theorem dX9_isAlive_20 : decode cX9_isAlive 20 = .ok (.iconst 1, 1) := by decide +kernel
theorem dX9_isAlive_21 : decode cX9_isAlive 21 = .ok (.if_icmp .ne 7, 3) := by decide +kernel
theorem dX9_isAlive_24 : decode cX9_isAlive 24 = .ok (.iconst 1, 1) := by decide +kernel
theorem dX9_isAlive_25 : decode cX9_isAlive 25 = .ok (.goto 4, 3) := by decide +kernel
theorem dX9_isAlive_28 : decode cX9_isAlive 28 = .ok (.iconst 0, 1) := by decide +kernel
theorem dX9_isAlive_29 : decode cX9_isAlive 29 = .ok (.ireturn, 1) := by decide +kernel
theorem dX9_painOn_0 : decode cX9_painOn 0 = .ok (.aload_n 0, 1) := by decide +kernel
theorem dX9_painOn_1 : decode cX9_painOn 1 = .ok (.getfield 15, 3) := by decide +kernel
theorem dX9_painOn_4 : decode cX9_painOn 4 = .ok (.iload_n 1, 1) := by decide +kernel
theorem dX9_painOn_5 : decode cX9_painOn 5 = .ok (.bipush 7, 2) := by decide +kernel
theorem dX9_painOn_7 : decode cX9_painOn 7 = .ok (.imul, 1) := by decide +kernel
theorem dX9_painOn_8 : decode cX9_painOn 8 = .ok (.iload_n 2, 1) := by decide +kernel
theorem dX9_painOn_9 : decode cX9_painOn 9 = .ok (.bipush 7, 2) := by decide +kernel
theorem dX9_painOn_11 : decode cX9_painOn 11 = .ok (.irem, 1) := by decide +kernel
theorem dX9_painOn_12 : decode cX9_painOn 12 = .ok (.iadd, 1) := by decide +kernel
theorem dX9_painOn_13 : decode cX9_painOn 13 = .ok (.iaload, 1) := by decide +kernel
theorem dX9_painOn_14 : decode cX9_painOn 14 = .ok (.ireturn, 1) := by decide +kernel
theorem dX9_dayIn_0 : decode cX9_dayIn 0 = .ok (.sipush 9999, 3) := by decide +kernel
theorem dX9_dayIn_3 : decode cX9_dayIn 3 = .ok (.aload_n 0, 1) := by decide +kernel
theorem dX9_dayIn_4 : decode cX9_dayIn 4 = .ok (.getfield 75, 3) := by decide +kernel
theorem dX9_dayIn_7 : decode cX9_dayIn 7 = .ok (.iload_n 1, 1) := by decide +kernel
theorem dX9_dayIn_8 : decode cX9_dayIn 8 = .ok (.iadd, 1) := by decide +kernel
theorem dX9_dayIn_9 : decode cX9_dayIn 9 = .ok (.invokestatic 92, 3) := by decide +kernel
theorem dX9_dayIn_12 : decode cX9_dayIn 12 = .ok (.ireturn, 1) := by decide +kernel
theorem dX9_withInterest_0 : decode cX9_withInterest 0 = .ok (.ldc 98, 2) := by decide +kernel
theorem dX9_withInterest_2 : decode cX9_withInterest 2 = .ok (.iload_n 1, 1) := by decide +kernel
theorem dX9_withInterest_3 : decode cX9_withInterest 3 = .ok (.iload_n 1, 1) := by decide +kernel
theorem dX9_withInterest_4 : decode cX9_withInterest 4 = .ok (.aload_n 0, 1) := by decide +kernel
theorem dX9_withInterest_5 : decode cX9_withInterest 5 = .ok (.getfield 37, 3) := by decide +kernel
theorem dX9_withInterest_8 : decode cX9_withInterest 8 = .ok (.imul, 1) := by decide +kernel
theorem dX9_withInterest_9 : decode cX9_withInterest 9 = .ok (.bipush 99, 2) := by decide +kernel
theorem dX9_withInterest_11 : decode cX9_withInterest 11 = .ok (.iadd, 1) := by decide +kernel
theorem dX9_withInterest_12 : decode cX9_withInterest 12 = .ok (.bipush 100, 2) := by decide +kernel
theorem dX9_withInterest_14 : decode cX9_withInterest 14 = .ok (.idiv, 1) := by decide +kernel
theorem dX9_withInterest_15 : decode cX9_withInterest 15 = .ok (.iadd, 1) := by decide +kernel
theorem dX9_withInterest_16 : decode cX9_withInterest 16 = .ok (.invokestatic 92, 3) := by decide +kernel
theorem dX9_withInterest_19 : decode cX9_withInterest 19 = .ok (.ireturn, 1) := by decide +kernel
theorem dX9_accountsOf_0 : decode cX9_accountsOf 0 = .ok (.iconst 0, 1) := by decide +kernel
theorem dX9_accountsOf_1 : decode cX9_accountsOf 1 = .ok (.istore_n 2, 1) := by decide +kernel
theorem dX9_accountsOf_2 : decode cX9_accountsOf 2 = .ok (.iconst 0, 1) := by decide +kernel
theorem dX9_accountsOf_3 : decode cX9_accountsOf 3 = .ok (.istore_n 3, 1) := by decide +kernel
theorem dX9_accountsOf_4 : decode cX9_accountsOf 4 = .ok (.iload_n 3, 1) := by decide +kernel
theorem dX9_accountsOf_5 : decode cX9_accountsOf 5 = .ok (.aload_n 0, 1) := by decide +kernel
theorem dX9_accountsOf_6 : decode cX9_accountsOf 6 = .ok (.getfield 57, 3) := by decide +kernel
theorem dX9_accountsOf_9 : decode cX9_accountsOf 9 = .ok (.if_icmp .ge 27, 3) := by decide +kernel
theorem dX9_accountsOf_12 : decode cX9_accountsOf 12 = .ok (.iload_n 1, 1) := by decide +kernel
theorem dX9_accountsOf_13 : decode cX9_accountsOf 13 = .ok (.iload_n 3, 1) := by decide +kernel
theorem dX9_accountsOf_14 : decode cX9_accountsOf 14 = .ok (.ishr, 1) := by decide +kernel
theorem dX9_accountsOf_15 : decode cX9_accountsOf 15 = .ok (.iconst 1, 1) := by decide +kernel
theorem dX9_accountsOf_16 : decode cX9_accountsOf 16 = .ok (.iand, 1) := by decide +kernel
theorem dX9_accountsOf_17 : decode cX9_accountsOf 17 = .ok (.iconst 1, 1) := by decide +kernel
theorem dX9_accountsOf_18 : decode cX9_accountsOf 18 = .ok (.if_icmp .ne 12, 3) := by decide +kernel
theorem dX9_accountsOf_21 : decode cX9_accountsOf 21 = .ok (.iload_n 2, 1) := by decide +kernel
theorem dX9_accountsOf_22 : decode cX9_accountsOf 22 = .ok (.aload_n 0, 1) := by decide +kernel
theorem dX9_accountsOf_23 : decode cX9_accountsOf 23 = .ok (.getfield 18, 3) := by decide +kernel
theorem dX9_accountsOf_26 : decode cX9_accountsOf 26 = .ok (.iload_n 3, 1) := by decide +kernel
theorem dX9_accountsOf_27 : decode cX9_accountsOf 27 = .ok (.iaload, 1) := by decide +kernel
theorem dX9_accountsOf_28 : decode cX9_accountsOf 28 = .ok (.iadd, 1) := by decide +kernel
theorem dX9_accountsOf_29 : decode cX9_accountsOf 29 = .ok (.istore_n 2, 1) := by decide +kernel
theorem dX9_accountsOf_30 : decode cX9_accountsOf 30 = .ok (.iinc 3 1, 3) := by decide +kernel
theorem dX9_accountsOf_33 : decode cX9_accountsOf 33 = .ok (.goto (-29), 3) := by decide +kernel
theorem dX9_accountsOf_36 : decode cX9_accountsOf 36 = .ok (.iload_n 2, 1) := by decide +kernel
theorem dX9_accountsOf_37 : decode cX9_accountsOf 37 = .ok (.ireturn, 1) := by decide +kernel
theorem dX9_forgedTogether_0 : decode cX9_forgedTogether 0 = .ok (.iconst 0, 1) := by decide +kernel
theorem dX9_forgedTogether_1 : decode cX9_forgedTogether 1 = .ok (.istore_n 1, 1) := by decide +kernel
theorem dX9_forgedTogether_2 : decode cX9_forgedTogether 2 = .ok (.iconst 0, 1) := by decide +kernel
theorem dX9_forgedTogether_3 : decode cX9_forgedTogether 3 = .ok (.istore_n 2, 1) := by decide +kernel
theorem dX9_forgedTogether_4 : decode cX9_forgedTogether 4 = .ok (.iload_n 2, 1) := by decide +kernel
theorem dX9_forgedTogether_5 : decode cX9_forgedTogether 5 = .ok (.aload_n 0, 1) := by decide +kernel
theorem dX9_forgedTogether_6 : decode cX9_forgedTogether 6 = .ok (.getfield 57, 3) := by decide +kernel
theorem dX9_forgedTogether_9 : decode cX9_forgedTogether 9 = .ok (.if_icmp .ge 18, 3) := by decide +kernel
theorem dX9_forgedTogether_12 : decode cX9_forgedTogether 12 = .ok (.iload_n 1, 1) := by decide +kernel
theorem dX9_forgedTogether_13 : decode cX9_forgedTogether 13 = .ok (.aload_n 0, 1) := by decide +kernel
theorem dX9_forgedTogether_14 : decode cX9_forgedTogether 14 = .ok (.getfield 21, 3) := by decide +kernel
theorem dX9_forgedTogether_17 : decode cX9_forgedTogether 17 = .ok (.iload_n 2, 1) := by decide +kernel
theorem dX9_forgedTogether_18 : decode cX9_forgedTogether 18 = .ok (.iaload, 1) := by decide +kernel
theorem dX9_forgedTogether_19 : decode cX9_forgedTogether 19 = .ok (.iadd, 1) := by decide +kernel
theorem dX9_forgedTogether_20 : decode cX9_forgedTogether 20 = .ok (.istore_n 1, 1) := by decide +kernel
theorem dX9_forgedTogether_21 : decode cX9_forgedTogether 21 = .ok (.iinc 2 1, 3) := by decide +kernel
theorem dX9_forgedTogether_24 : decode cX9_forgedTogether 24 = .ok (.goto (-20), 3) := by decide +kernel
theorem dX9_forgedTogether_27 : decode cX9_forgedTogether 27 = .ok (.iload_n 1, 1) := by decide +kernel
theorem dX9_forgedTogether_28 : decode cX9_forgedTogether 28 = .ok (.ireturn, 1) := by decide +kernel
theorem dX9_netOf_0 : decode cX9_netOf 0 = .ok (.iconst 0, 1) := by decide +kernel
theorem dX9_netOf_1 : decode cX9_netOf 1 = .ok (.istore_n 2, 1) := by decide +kernel
theorem dX9_netOf_2 : decode cX9_netOf 2 = .ok (.iconst 0, 1) := by decide +kernel
theorem dX9_netOf_3 : decode cX9_netOf 3 = .ok (.istore_n 3, 1) := by decide +kernel
theorem dX9_netOf_4 : decode cX9_netOf 4 = .ok (.iload_n 3, 1) := by decide +kernel
theorem dX9_netOf_5 : decode cX9_netOf 5 = .ok (.aload_n 0, 1) := by decide +kernel
theorem dX9_netOf_6 : decode cX9_netOf 6 = .ok (.getfield 57, 3) := by decide +kernel
theorem dX9_netOf_9 : decode cX9_netOf 9 = .ok (.if_icmp .ge 35, 3) := by decide +kernel
theorem dX9_netOf_12 : decode cX9_netOf 12 = .ok (.iload_n 2, 1) := by decide +kernel
theorem dX9_netOf_13 : decode cX9_netOf 13 = .ok (.aload_n 0, 1) := by decide +kernel
theorem dX9_netOf_14 : decode cX9_netOf 14 = .ok (.getfield 30, 3) := by decide +kernel
theorem dX9_netOf_17 : decode cX9_netOf 17 = .ok (.iload_n 3, 1) := by decide +kernel
theorem dX9_netOf_18 : decode cX9_netOf 18 = .ok (.bipush 8, 2) := by decide +kernel
theorem dX9_netOf_20 : decode cX9_netOf 20 = .ok (.imul, 1) := by decide +kernel
theorem dX9_netOf_21 : decode cX9_netOf 21 = .ok (.iload_n 1, 1) := by decide +kernel
theorem dX9_netOf_22 : decode cX9_netOf 22 = .ok (.iadd, 1) := by decide +kernel
theorem dX9_netOf_23 : decode cX9_netOf 23 = .ok (.iaload, 1) := by decide +kernel
theorem dX9_netOf_24 : decode cX9_netOf 24 = .ok (.aload_n 0, 1) := by decide +kernel
theorem dX9_netOf_25 : decode cX9_netOf 25 = .ok (.getfield 30, 3) := by decide +kernel
theorem dX9_netOf_28 : decode cX9_netOf 28 = .ok (.iload_n 1, 1) := by decide +kernel
theorem dX9_netOf_29 : decode cX9_netOf 29 = .ok (.bipush 8, 2) := by decide +kernel
theorem dX9_netOf_31 : decode cX9_netOf 31 = .ok (.imul, 1) := by decide +kernel
theorem dX9_netOf_32 : decode cX9_netOf 32 = .ok (.iload_n 3, 1) := by decide +kernel
theorem dX9_netOf_33 : decode cX9_netOf 33 = .ok (.iadd, 1) := by decide +kernel
theorem dX9_netOf_34 : decode cX9_netOf 34 = .ok (.iaload, 1) := by decide +kernel
theorem dX9_netOf_35 : decode cX9_netOf 35 = .ok (.isub, 1) := by decide +kernel
theorem dX9_netOf_36 : decode cX9_netOf 36 = .ok (.iadd, 1) := by decide +kernel
theorem dX9_netOf_37 : decode cX9_netOf 37 = .ok (.istore_n 2, 1) := by decide +kernel
theorem dX9_netOf_38 : decode cX9_netOf 38 = .ok (.iinc 3 1, 3) := by decide +kernel
theorem dX9_netOf_41 : decode cX9_netOf 41 = .ok (.goto (-37), 3) := by decide +kernel
theorem dX9_netOf_44 : decode cX9_netOf 44 = .ok (.iload_n 2, 1) := by decide +kernel
theorem dX9_netOf_45 : decode cX9_netOf 45 = .ok (.ireturn, 1) := by decide +kernel
theorem dX10_init_0 : decode cX10_init 0 = .ok (.aload_n 0, 1) := by decide +kernel
theorem dX10_init_1 : decode cX10_init 1 = .ok (.invokespecial 3, 3) := by decide +kernel
theorem dX10_init_4 : decode cX10_init 4 = .ok (.aload_n 0, 1) := by decide +kernel
theorem dX10_init_5 : decode cX10_init 5 = .ok (.sipush 400, 3) := by decide +kernel
theorem dX10_init_8 : decode cX10_init 8 = .ok (.newarray .int, 2) := by decide +kernel
theorem dX10_init_10 : decode cX10_init 10 = .ok (.putfield 9, 3) := by decide +kernel
theorem dX10_init_13 : decode cX10_init 13 = .ok (.return_, 1) := by decide +kernel
theorem dX10_open_0 : decode cX10_open 0 = .ok (.aload_n 0, 1) := by decide +kernel
theorem dX10_open_1 : decode cX10_open 1 = .ok (.iconst 0, 1) := by decide +kernel
theorem dX10_open_2 : decode cX10_open 2 = .ok (.iload_n 2, 1) := by decide +kernel
theorem dX10_open_3 : decode cX10_open 3 = .ok (.aload_n 1, 1) := by decide +kernel
theorem dX10_open_4 : decode cX10_open 4 = .ok (.arraylength, 1) := by decide +kernel
theorem dX10_open_5 : decode cX10_open 5 = .ok (.sipush 400, 3) := by decide +kernel
theorem dX10_open_8 : decode cX10_open 8 = .ok (.invokestatic 15, 3) := by decide +kernel
theorem dX10_open_11 : decode cX10_open 11 = .ok (.invokestatic 15, 3) := by decide +kernel
theorem dX10_open_14 : decode cX10_open 14 = .ok (.invokestatic 21, 3) := by decide +kernel
theorem dX10_open_17 : decode cX10_open 17 = .ok (.putfield 24, 3) := by decide +kernel
theorem dX10_open_20 : decode cX10_open 20 = .ok (.aload_n 1, 1) := by decide +kernel
theorem dX10_open_21 : decode cX10_open 21 = .ok (.iconst 0, 1) := by decide +kernel
theorem dX10_open_22 : decode cX10_open 22 = .ok (.aload_n 0, 1) := by decide +kernel
theorem dX10_open_23 : decode cX10_open 23 = .ok (.getfield 9, 3) := by decide +kernel
theorem dX10_open_26 : decode cX10_open 26 = .ok (.iconst 0, 1) := by decide +kernel
theorem dX10_open_27 : decode cX10_open 27 = .ok (.aload_n 0, 1) := by decide +kernel
theorem dX10_open_28 : decode cX10_open 28 = .ok (.getfield 24, 3) := by decide +kernel
theorem dX10_open_31 : decode cX10_open 31 = .ok (.invokestatic 28, 3) := by decide +kernel
theorem dX10_open_34 : decode cX10_open 34 = .ok (.aload_n 0, 1) := by decide +kernel
theorem dX10_open_35 : decode cX10_open 35 = .ok (.iconst 0, 1) := by decide +kernel
theorem dX10_open_36 : decode cX10_open 36 = .ok (.putfield 34, 3) := by decide +kernel
theorem dX10_open_39 : decode cX10_open 39 = .ok (.aload_n 0, 1) := by decide +kernel
theorem dX10_open_40 : decode cX10_open 40 = .ok (.invokevirtual 37, 3) := by decide +kernel
theorem dX10_open_43 : decode cX10_open 43 = .ok (.return_, 1) := by decide +kernel
theorem dX10_step_0 : decode cX10_step 0 = .ok (.aload_n 0, 1) := by decide +kernel
theorem dX10_step_1 : decode cX10_step 1 = .ok (.getfield 34, 3) := by decide +kernel
theorem dX10_step_4 : decode cX10_step 4 = .ok (.aload_n 0, 1) := by decide +kernel
theorem dX10_step_5 : decode cX10_step 5 = .ok (.getfield 24, 3) := by decide +kernel
theorem dX10_step_8 : decode cX10_step 8 = .ok (.if_icmp .ge 30, 3) := by decide +kernel
theorem dX10_step_11 : decode cX10_step 11 = .ok (.aload_n 0, 1) := by decide +kernel
theorem dX10_step_12 : decode cX10_step 12 = .ok (.getfield 9, 3) := by decide +kernel
theorem dX10_step_15 : decode cX10_step 15 = .ok (.aload_n 0, 1) := by decide +kernel
theorem dX10_step_16 : decode cX10_step 16 = .ok (.getfield 34, 3) := by decide +kernel
theorem dX10_step_19 : decode cX10_step 19 = .ok (.iaload, 1) := by decide +kernel
theorem dX10_step_20 : decode cX10_step 20 = .ok (.bipush 32, 2) := by decide +kernel
theorem dX10_step_22 : decode cX10_step 22 = .ok (.if_icmp .ne 16, 3) := by decide +kernel
theorem dX10_step_25 : decode cX10_step 25 = .ok (.aload_n 0, 1) := by decide +kernel
theorem dX10_step_26 : decode cX10_step 26 = .ok (.dup, 1) := by decide +kernel
theorem dX10_step_27 : decode cX10_step 27 = .ok (.getfield 34, 3) := by decide +kernel
theorem dX10_step_30 : decode cX10_step 30 = .ok (.iconst 1, 1) := by decide +kernel
theorem dX10_step_31 : decode cX10_step 31 = .ok (.iadd, 1) := by decide +kernel
theorem dX10_step_32 : decode cX10_step 32 = .ok (.putfield 34, 3) := by decide +kernel
theorem dX10_step_35 : decode cX10_step 35 = .ok (.goto (-35), 3) := by decide +kernel
theorem dX10_step_38 : decode cX10_step 38 = .ok (.aload_n 0, 1) := by decide +kernel
theorem dX10_step_39 : decode cX10_step 39 = .ok (.aload_n 0, 1) := by decide +kernel
theorem dX10_step_40 : decode cX10_step 40 = .ok (.getfield 34, 3) := by decide +kernel
theorem dX10_step_43 : decode cX10_step 43 = .ok (.putfield 40, 3) := by decide +kernel
theorem dX10_step_46 : decode cX10_step 46 = .ok (.aload_n 0, 1) := by decide +kernel
theorem dX10_step_47 : decode cX10_step 47 = .ok (.iconst 0, 1) := by decide +kernel
theorem dX10_step_48 : decode cX10_step 48 = .ok (.putfield 43, 3) := by decide +kernel
theorem dX10_step_51 : decode cX10_step 51 = .ok (.aload_n 0, 1) := by decide +kernel
theorem dX10_step_52 : decode cX10_step 52 = .ok (.iconst 0, 1) := by decide +kernel
theorem dX10_step_53 : decode cX10_step 53 = .ok (.putfield 46, 3) := by decide +kernel
theorem dX10_step_56 : decode cX10_step 56 = .ok (.aload_n 0, 1) := by decide +kernel
theorem dX10_step_57 : decode cX10_step 57 = .ok (.getfield 34, 3) := by decide +kernel
theorem dX10_step_60 : decode cX10_step 60 = .ok (.aload_n 0, 1) := by decide +kernel
theorem dX10_step_61 : decode cX10_step 61 = .ok (.getfield 24, 3) := by decide +kernel
theorem dX10_step_64 : decode cX10_step 64 = .ok (.if_icmp .lt 11, 3) := by decide +kernel
theorem dX10_step_67 : decode cX10_step 67 = .ok (.aload_n 0, 1) := by decide +kernel
theorem dX10_step_68 : decode cX10_step 68 = .ok (.iconst 0, 1) := by decide +kernel
theorem dX10_step_69 : decode cX10_step 69 = .ok (.putfield 49, 3) := by decide +kernel
theorem dX10_step_72 : decode cX10_step 72 = .ok (.goto 174, 3) := by decide +kernel
theorem dX10_step_75 : decode cX10_step 75 = .ok (.aload_n 0, 1) := by decide +kernel
theorem dX10_step_76 : decode cX10_step 76 = .ok (.getfield 9, 3) := by decide +kernel
theorem dX10_step_79 : decode cX10_step 79 = .ok (.aload_n 0, 1) := by decide +kernel
theorem dX10_step_80 : decode cX10_step 80 = .ok (.getfield 34, 3) := by decide +kernel
theorem dX10_step_83 : decode cX10_step 83 = .ok (.iaload, 1) := by decide +kernel
theorem dX10_step_84 : decode cX10_step 84 = .ok (.invokestatic 52, 3) := by decide +kernel
theorem dX10_step_87 : decode cX10_step 87 = .ok (.ifCond .eq 47, 3) := by decide +kernel
theorem dX10_step_90 : decode cX10_step 90 = .ok (.aload_n 0, 1) := by decide +kernel
theorem dX10_step_91 : decode cX10_step 91 = .ok (.iconst 1, 1) := by decide +kernel
theorem dX10_step_92 : decode cX10_step 92 = .ok (.putfield 49, 3) := by decide +kernel
theorem dX10_step_95 : decode cX10_step 95 = .ok (.aload_n 0, 1) := by decide +kernel
theorem dX10_step_96 : decode cX10_step 96 = .ok (.getfield 34, 3) := by decide +kernel
theorem dX10_step_99 : decode cX10_step 99 = .ok (.aload_n 0, 1) := by decide +kernel
theorem dX10_step_100 : decode cX10_step 100 = .ok (.getfield 24, 3) := by decide +kernel
theorem dX10_step_103 : decode cX10_step 103 = .ok (.if_icmp .ge 143, 3) := by decide +kernel
theorem dX10_step_106 : decode cX10_step 106 = .ok (.aload_n 0, 1) := by decide +kernel
theorem dX10_step_107 : decode cX10_step 107 = .ok (.getfield 9, 3) := by decide +kernel
theorem dX10_step_110 : decode cX10_step 110 = .ok (.aload_n 0, 1) := by decide +kernel
theorem dX10_step_111 : decode cX10_step 111 = .ok (.getfield 34, 3) := by decide +kernel
theorem dX10_step_114 : decode cX10_step 114 = .ok (.iaload, 1) := by decide +kernel
theorem dX10_step_115 : decode cX10_step 115 = .ok (.invokestatic 52, 3) := by decide +kernel
theorem dX10_step_118 : decode cX10_step 118 = .ok (.ifCond .eq 128, 3) := by decide +kernel
theorem dX10_step_121 : decode cX10_step 121 = .ok (.aload_n 0, 1) := by decide +kernel
theorem dX10_step_122 : decode cX10_step 122 = .ok (.dup, 1) := by decide +kernel
theorem dX10_step_123 : decode cX10_step 123 = .ok (.getfield 34, 3) := by decide +kernel
theorem dX10_step_126 : decode cX10_step 126 = .ok (.iconst 1, 1) := by decide +kernel
theorem dX10_step_127 : decode cX10_step 127 = .ok (.iadd, 1) := by decide +kernel
theorem dX10_step_128 : decode cX10_step 128 = .ok (.putfield 34, 3) := by decide +kernel
theorem dX10_step_131 : decode cX10_step 131 = .ok (.goto (-36), 3) := by decide +kernel
theorem dX10_step_134 : decode cX10_step 134 = .ok (.aload_n 0, 1) := by decide +kernel
theorem dX10_step_135 : decode cX10_step 135 = .ok (.getfield 9, 3) := by decide +kernel
theorem dX10_step_138 : decode cX10_step 138 = .ok (.aload_n 0, 1) := by decide +kernel
theorem dX10_step_139 : decode cX10_step 139 = .ok (.getfield 34, 3) := by decide +kernel
theorem dX10_step_142 : decode cX10_step 142 = .ok (.iaload, 1) := by decide +kernel
theorem dX10_step_143 : decode cX10_step 143 = .ok (.invokestatic 56, 3) := by decide +kernel
theorem dX10_step_146 : decode cX10_step 146 = .ok (.ifCond .eq 85, 3) := by decide +kernel
theorem dX10_step_149 : decode cX10_step 149 = .ok (.aload_n 0, 1) := by decide +kernel
theorem dX10_step_150 : decode cX10_step 150 = .ok (.iconst 2, 1) := by decide +kernel
theorem dX10_step_151 : decode cX10_step 151 = .ok (.putfield 49, 3) := by decide +kernel
theorem dX10_step_154 : decode cX10_step 154 = .ok (.aload_n 0, 1) := by decide +kernel
theorem dX10_step_155 : decode cX10_step 155 = .ok (.getfield 34, 3) := by decide +kernel
theorem dX10_step_158 : decode cX10_step 158 = .ok (.aload_n 0, 1) := by decide +kernel
theorem dX10_step_159 : decode cX10_step 159 = .ok (.getfield 24, 3) := by decide +kernel
theorem dX10_step_162 : decode cX10_step 162 = .ok (.if_icmp .ge 84, 3) := by decide +kernel
theorem dX10_step_165 : decode cX10_step 165 = .ok (.aload_n 0, 1) := by decide +kernel
theorem dX10_step_166 : decode cX10_step 166 = .ok (.getfield 9, 3) := by decide +kernel
theorem dX10_step_169 : decode cX10_step 169 = .ok (.aload_n 0, 1) := by decide +kernel
theorem dX10_step_170 : decode cX10_step 170 = .ok (.getfield 34, 3) := by decide +kernel
theorem dX10_step_173 : decode cX10_step 173 = .ok (.iaload, 1) := by decide +kernel
theorem dX10_step_174 : decode cX10_step 174 = .ok (.invokestatic 56, 3) := by decide +kernel
theorem dX10_step_177 : decode cX10_step 177 = .ok (.ifCond .eq 69, 3) := by decide +kernel
theorem dX10_step_180 : decode cX10_step 180 = .ok (.aload_n 0, 1) := by decide +kernel
theorem dX10_step_181 : decode cX10_step 181 = .ok (.getfield 34, 3) := by decide +kernel
theorem dX10_step_184 : decode cX10_step 184 = .ok (.aload_n 0, 1) := by decide +kernel
theorem dX10_step_185 : decode cX10_step 185 = .ok (.getfield 40, 3) := by decide +kernel
theorem dX10_step_188 : decode cX10_step 188 = .ok (.isub, 1) := by decide +kernel
theorem dX10_step_189 : decode cX10_step 189 = .ok (.bipush 7, 2) := by decide +kernel
theorem dX10_step_191 : decode cX10_step 191 = .ok (.if_icmp .ge 27, 3) := by decide +kernel
theorem dX10_step_194 : decode cX10_step 194 = .ok (.aload_n 0, 1) := by decide +kernel
theorem dX10_step_195 : decode cX10_step 195 = .ok (.aload_n 0, 1) := by decide +kernel
theorem dX10_step_196 : decode cX10_step 196 = .ok (.getfield 46, 3) := by decide +kernel
theorem dX10_step_199 : decode cX10_step 199 = .ok (.bipush 10, 2) := by decide +kernel
theorem dX10_step_201 : decode cX10_step 201 = .ok (.imul, 1) := by decide +kernel
theorem dX10_step_202 : decode cX10_step 202 = .ok (.aload_n 0, 1) := by decide +kernel
theorem dX10_step_203 : decode cX10_step 203 = .ok (.getfield 9, 3) := by decide +kernel
theorem dX10_step_206 : decode cX10_step 206 = .ok (.aload_n 0, 1) := by decide +kernel
theorem dX10_step_207 : decode cX10_step 207 = .ok (.getfield 34, 3) := by decide +kernel
theorem dX10_step_210 : decode cX10_step 210 = .ok (.iaload, 1) := by decide +kernel
theorem dX10_step_211 : decode cX10_step 211 = .ok (.iadd, 1) := by decide +kernel
theorem dX10_step_212 : decode cX10_step 212 = .ok (.bipush 48, 2) := by decide +kernel
theorem dX10_step_214 : decode cX10_step 214 = .ok (.isub, 1) := by decide +kernel
theorem dX10_step_215 : decode cX10_step 215 = .ok (.putfield 46, 3) := by decide +kernel
theorem dX10_step_218 : decode cX10_step 218 = .ok (.aload_n 0, 1) := by decide +kernel
theorem dX10_step_219 : decode cX10_step 219 = .ok (.dup, 1) := by decide +kernel
theorem dX10_step_220 : decode cX10_step 220 = .ok (.getfield 34, 3) := by decide +kernel
theorem dX10_step_223 : decode cX10_step 223 = .ok (.iconst 1, 1) := by decide +kernel
theorem dX10_step_224 : decode cX10_step 224 = .ok (.iadd, 1) := by decide +kernel
theorem dX10_step_225 : decode cX10_step 225 = .ok (.putfield 34, 3) := by decide +kernel
theorem dX10_step_228 : decode cX10_step 228 = .ok (.goto (-74), 3) := by decide +kernel
theorem dX10_step_231 : decode cX10_step 231 = .ok (.aload_n 0, 1) := by decide +kernel
theorem dX10_step_232 : decode cX10_step 232 = .ok (.iconst 3, 1) := by decide +kernel
theorem dX10_step_233 : decode cX10_step 233 = .ok (.putfield 49, 3) := by decide +kernel
theorem dX10_step_236 : decode cX10_step 236 = .ok (.aload_n 0, 1) := by decide +kernel
theorem dX10_step_237 : decode cX10_step 237 = .ok (.dup, 1) := by decide +kernel
theorem dX10_step_238 : decode cX10_step 238 = .ok (.getfield 34, 3) := by decide +kernel
theorem dX10_step_241 : decode cX10_step 241 = .ok (.iconst 1, 1) := by decide +kernel
theorem dX10_step_242 : decode cX10_step 242 = .ok (.iadd, 1) := by decide +kernel
theorem dX10_step_243 : decode cX10_step 243 = .ok (.putfield 34, 3) := by decide +kernel
theorem dX10_step_246 : decode cX10_step 246 = .ok (.aload_n 0, 1) := by decide +kernel
theorem dX10_step_247 : decode cX10_step 247 = .ok (.aload_n 0, 1) := by decide +kernel
theorem dX10_step_248 : decode cX10_step 248 = .ok (.getfield 34, 3) := by decide +kernel
theorem dX10_step_251 : decode cX10_step 251 = .ok (.aload_n 0, 1) := by decide +kernel
theorem dX10_step_252 : decode cX10_step 252 = .ok (.getfield 40, 3) := by decide +kernel
theorem dX10_step_255 : decode cX10_step 255 = .ok (.isub, 1) := by decide +kernel
theorem dX10_step_256 : decode cX10_step 256 = .ok (.putfield 43, 3) := by decide +kernel
theorem dX10_step_259 : decode cX10_step 259 = .ok (.return_, 1) := by decide +kernel
theorem dX10_isEnd_0 : decode cX10_isEnd 0 = .ok (.aload_n 0, 1) := by decide +kernel
theorem dX10_isEnd_1 : decode cX10_isEnd 1 = .ok (.getfield 49, 3) := by decide +kernel
theorem dX10_isEnd_4 : decode cX10_isEnd 4 = .ok (.ifCond .ne 7, 3) := by decide +kernel
theorem dX10_isEnd_7 : decode cX10_isEnd 7 = .ok (.iconst 1, 1) := by decide +kernel
theorem dX10_isEnd_8 : decode cX10_isEnd 8 = .ok (.goto 4, 3) := by decide +kernel
theorem dX10_isEnd_11 : decode cX10_isEnd 11 = .ok (.iconst 0, 1) := by decide +kernel
theorem dX10_isEnd_12 : decode cX10_isEnd 12 = .ok (.ireturn, 1) := by decide +kernel
theorem dX10_isSign_0 : decode cX10_isSign 0 = .ok (.aload_n 0, 1) := by decide +kernel
theorem dX10_isSign_1 : decode cX10_isSign 1 = .ok (.getfield 49, 3) := by decide +kernel
theorem dX10_isSign_4 : decode cX10_isSign 4 = .ok (.iconst 3, 1) := by decide +kernel
theorem dX10_isSign_5 : decode cX10_isSign 5 = .ok (.if_icmp .ne 31, 3) := by decide +kernel
theorem dX10_isSign_8 : decode cX10_isSign 8 = .ok (.aload_n 0, 1) := by decide +kernel
theorem dX10_isSign_9 : decode cX10_isSign 9 = .ok (.getfield 40, 3) := by decide +kernel
theorem dX10_isSign_12 : decode cX10_isSign 12 = .ok (.aload_n 0, 1) := by decide +kernel
theorem dX10_isSign_13 : decode cX10_isSign 13 = .ok (.getfield 24, 3) := by decide +kernel
theorem dX10_isSign_16 : decode cX10_isSign 16 = .ok (.if_icmp .ge 20, 3) := by decide +kernel
theorem dX10_isSign_19 : decode cX10_isSign 19 = .ok (.aload_n 0, 1) := by decide +kernel
theorem dX10_isSign_20 : decode cX10_isSign 20 = .ok (.getfield 9, 3) := by decide +kernel
theorem dX10_isSign_23 : decode cX10_isSign 23 = .ok (.aload_n 0, 1) := by decide +kernel
theorem dX10_isSign_24 : decode cX10_isSign 24 = .ok (.getfield 40, 3) := by decide +kernel
theorem dX10_isSign_27 : decode cX10_isSign 27 = .ok (.iaload, 1) := by decide +kernel
theorem dX10_isSign_28 : decode cX10_isSign 28 = .ok (.iload_n 1, 1) := by decide +kernel
theorem dX10_isSign_29 : decode cX10_isSign 29 = .ok (.if_icmp .ne 7, 3) := by decide +kernel
theorem dX10_isSign_32 : decode cX10_isSign 32 = .ok (.iconst 1, 1) := by decide +kernel
theorem dX10_isSign_33 : decode cX10_isSign 33 = .ok (.goto 4, 3) := by decide +kernel
theorem dX10_isSign_36 : decode cX10_isSign 36 = .ok (.iconst 0, 1) := by decide +kernel
theorem dX10_isSign_37 : decode cX10_isSign 37 = .ok (.ireturn, 1) := by decide +kernel
theorem dX10_isWord_0 : decode cX10_isWord 0 = .ok (.aload_n 0, 1) := by decide +kernel
theorem dX10_isWord_1 : decode cX10_isWord 1 = .ok (.getfield 49, 3) := by decide +kernel
theorem dX10_isWord_4 : decode cX10_isWord 4 = .ok (.iconst 1, 1) := by decide +kernel
theorem dX10_isWord_5 : decode cX10_isWord 5 = .ok (.if_icmp .ne 14, 3) := by decide +kernel
theorem dX10_isWord_8 : decode cX10_isWord 8 = .ok (.aload_n 0, 1) := by decide +kernel
theorem dX10_isWord_9 : decode cX10_isWord 9 = .ok (.getfield 43, 3) := by decide +kernel
theorem dX10_isWord_12 : decode cX10_isWord 12 = .ok (.aload_n 1, 1) := by decide +kernel
theorem dX10_isWord_13 : decode cX10_isWord 13 = .ok (.invokevirtual 59, 3) := by decide +kernel
theorem dX10_isWord_16 : decode cX10_isWord 16 = .ok (.if_icmp .eq 5, 3) := by decide +kernel
theorem dX10_isWord_19 : decode cX10_isWord 19 = .ok (.iconst 0, 1) := by decide +kernel
theorem dX10_isWord_20 : decode cX10_isWord 20 = .ok (.ireturn, 1) := by decide +kernel
theorem dX10_isWord_21 : decode cX10_isWord 21 = .ok (.iconst 0, 1) := by decide +kernel
theorem dX10_isWord_22 : decode cX10_isWord 22 = .ok (.istore_n 2, 1) := by decide +kernel
theorem dX10_isWord_23 : decode cX10_isWord 23 = .ok (.iload_n 2, 1) := by decide +kernel
theorem dX10_isWord_24 : decode cX10_isWord 24 = .ok (.aload_n 1, 1) := by decide +kernel
theorem dX10_isWord_25 : decode cX10_isWord 25 = .ok (.invokevirtual 59, 3) := by decide +kernel
theorem dX10_isWord_28 : decode cX10_isWord 28 = .ok (.if_icmp .ge 43, 3) := by decide +kernel
theorem dX10_isWord_31 : decode cX10_isWord 31 = .ok (.aload_n 0, 1) := by decide +kernel
theorem dX10_isWord_32 : decode cX10_isWord 32 = .ok (.getfield 40, 3) := by decide +kernel
theorem dX10_isWord_35 : decode cX10_isWord 35 = .ok (.iload_n 2, 1) := by decide +kernel
theorem dX10_isWord_36 : decode cX10_isWord 36 = .ok (.iadd, 1) := by decide +kernel
theorem dX10_isWord_37 : decode cX10_isWord 37 = .ok (.aload_n 0, 1) := by decide +kernel
theorem dX10_isWord_38 : decode cX10_isWord 38 = .ok (.getfield 24, 3) := by decide +kernel
theorem dX10_isWord_41 : decode cX10_isWord 41 = .ok (.if_icmp .ge 30, 3) := by decide +kernel
theorem dX10_isWord_44 : decode cX10_isWord 44 = .ok (.aload_n 0, 1) := by decide +kernel
theorem dX10_isWord_45 : decode cX10_isWord 45 = .ok (.getfield 9, 3) := by decide +kernel
theorem dX10_isWord_48 : decode cX10_isWord 48 = .ok (.aload_n 0, 1) := by decide +kernel
theorem dX10_isWord_49 : decode cX10_isWord 49 = .ok (.getfield 40, 3) := by decide +kernel
theorem dX10_isWord_52 : decode cX10_isWord 52 = .ok (.iload_n 2, 1) := by decide +kernel
theorem dX10_isWord_53 : decode cX10_isWord 53 = .ok (.iadd, 1) := by decide +kernel
theorem dX10_isWord_54 : decode cX10_isWord 54 = .ok (.iaload, 1) := by decide +kernel
theorem dX10_isWord_55 : decode cX10_isWord 55 = .ok (.aload_n 1, 1) := by decide +kernel
theorem dX10_isWord_56 : decode cX10_isWord 56 = .ok (.iload_n 2, 1) := by decide +kernel
theorem dX10_isWord_57 : decode cX10_isWord 57 = .ok (.invokevirtual 65, 3) := by decide +kernel
theorem dX10_isWord_60 : decode cX10_isWord 60 = .ok (.if_icmp .eq 5, 3) := by decide +kernel
theorem dX10_isWord_63 : decode cX10_isWord 63 = .ok (.iconst 0, 1) := by decide +kernel
theorem dX10_isWord_64 : decode cX10_isWord 64 = .ok (.ireturn, 1) := by decide +kernel
theorem dX10_isWord_65 : decode cX10_isWord 65 = .ok (.iinc 2 1, 3) := by decide +kernel
theorem dX10_isWord_68 : decode cX10_isWord 68 = .ok (.goto (-45), 3) := by decide +kernel
theorem dX10_isWord_71 : decode cX10_isWord 71 = .ok (.iconst 1, 1) := by decide +kernel
theorem dX10_isWord_72 : decode cX10_isWord 72 = .ok (.ireturn, 1) := by decide +kernel
theorem dX10_isNumber_0 : decode cX10_isNumber 0 = .ok (.aload_n 0, 1) := by decide +kernel
theorem dX10_isNumber_1 : decode cX10_isNumber 1 = .ok (.getfield 49, 3) := by decide +kernel
theorem dX10_isNumber_4 : decode cX10_isNumber 4 = .ok (.iconst 2, 1) := by decide +kernel
theorem dX10_isNumber_5 : decode cX10_isNumber 5 = .ok (.if_icmp .ne 31, 3) := by decide +kernel
theorem dX10_isNumber_8 : decode cX10_isNumber 8 = .ok (.aload_n 0, 1) := by decide +kernel
theorem dX10_isNumber_9 : decode cX10_isNumber 9 = .ok (.getfield 43, 3) := by decide +kernel
theorem dX10_isNumber_12 : decode cX10_isNumber 12 = .ok (.iload_n 1, 1) := by decide +kernel
theorem dX10_isNumber_13 : decode cX10_isNumber 13 = .ok (.if_icmp .gt 23, 3) := by decide +kernel
theorem dX10_isNumber_16 : decode cX10_isNumber 16 = .ok (.aload_n 0, 1) := by decide +kernel
theorem dX10_isNumber_17 : decode cX10_isNumber 17 = .ok (.getfield 46, 3) := by decide +kernel
theorem dX10_isNumber_20 : decode cX10_isNumber 20 = .ok (.iload_n 2, 1) := by decide +kernel
theorem dX10_isNumber_21 : decode cX10_isNumber 21 = .ok (.if_icmp .lt 15, 3) := by decide +kernel
theorem dX10_isNumber_24 : decode cX10_isNumber 24 = .ok (.aload_n 0, 1) := by decide +kernel
theorem dX10_isNumber_25 : decode cX10_isNumber 25 = .ok (.getfield 46, 3) := by decide +kernel
theorem dX10_isNumber_28 : decode cX10_isNumber 28 = .ok (.iload_n 3, 1) := by decide +kernel
theorem dX10_isNumber_29 : decode cX10_isNumber 29 = .ok (.if_icmp .gt 7, 3) := by decide +kernel
theorem dX10_isNumber_32 : decode cX10_isNumber 32 = .ok (.iconst 1, 1) := by decide +kernel
theorem dX10_isNumber_33 : decode cX10_isNumber 33 = .ok (.goto 4, 3) := by decide +kernel
theorem dX10_isNumber_36 : decode cX10_isNumber 36 = .ok (.iconst 0, 1) := by decide +kernel
theorem dX10_isNumber_37 : decode cX10_isNumber 37 = .ok (.ireturn, 1) := by decide +kernel
theorem dX10_takesWord_0 : decode cX10_takesWord 0 = .ok (.aload_n 0, 1) := by decide +kernel
theorem dX10_takesWord_1 : decode cX10_takesWord 1 = .ok (.aload_n 1, 1) := by decide +kernel
theorem dX10_takesWord_2 : decode cX10_takesWord 2 = .ok (.invokevirtual 69, 3) := by decide +kernel
theorem dX10_takesWord_5 : decode cX10_takesWord 5 = .ok (.ifCond .ne 5, 3) := by decide +kernel
theorem dX10_takesWord_8 : decode cX10_takesWord 8 = .ok (.iconst 0, 1) := by decide +kernel
theorem dX10_takesWord_9 : decode cX10_takesWord 9 = .ok (.ireturn, 1) := by decide +kernel
theorem dX10_takesWord_10 : decode cX10_takesWord 10 = .ok (.aload_n 0, 1) := by decide +kernel
theorem dX10_takesWord_11 : decode cX10_takesWord 11 = .ok (.invokevirtual 37, 3) := by decide +kernel
theorem dX10_takesWord_14 : decode cX10_takesWord 14 = .ok (.iconst 1, 1) := by decide +kernel
theorem dX10_takesWord_15 : decode cX10_takesWord 15 = .ok (.ireturn, 1) := by decide +kernel
theorem dX10_takesSign_0 : decode cX10_takesSign 0 = .ok (.aload_n 0, 1) := by decide +kernel
theorem dX10_takesSign_1 : decode cX10_takesSign 1 = .ok (.iload_n 1, 1) := by decide +kernel
theorem dX10_takesSign_2 : decode cX10_takesSign 2 = .ok (.invokevirtual 73, 3) := by decide +kernel
theorem dX10_takesSign_5 : decode cX10_takesSign 5 = .ok (.ifCond .ne 5, 3) := by decide +kernel
theorem dX10_takesSign_8 : decode cX10_takesSign 8 = .ok (.iconst 0, 1) := by decide +kernel
theorem dX10_takesSign_9 : decode cX10_takesSign 9 = .ok (.ireturn, 1) := by decide +kernel
theorem dX10_takesSign_10 : decode cX10_takesSign 10 = .ok (.aload_n 0, 1) := by decide +kernel
theorem dX10_takesSign_11 : decode cX10_takesSign 11 = .ok (.invokevirtual 37, 3) := by decide +kernel
theorem dX10_takesSign_14 : decode cX10_takesSign 14 = .ok (.iconst 1, 1) := by decide +kernel
theorem dX10_takesSign_15 : decode cX10_takesSign 15 = .ok (.ireturn, 1) := by decide +kernel
theorem dX10_isLetter_0 : decode cX10_isLetter 0 = .ok (.iload_n 0, 1) := by decide +kernel
theorem dX10_isLetter_1 : decode cX10_isLetter 1 = .ok (.bipush 97, 2) := by decide +kernel
theorem dX10_isLetter_3 : decode cX10_isLetter 3 = .ok (.if_icmp .lt 13, 3) := by decide +kernel
theorem dX10_isLetter_6 : decode cX10_isLetter 6 = .ok (.iload_n 0, 1) := by decide +kernel
theorem dX10_isLetter_7 : decode cX10_isLetter 7 = .ok (.bipush 122, 2) := by decide +kernel
theorem dX10_isLetter_9 : decode cX10_isLetter 9 = .ok (.if_icmp .gt 7, 3) := by decide +kernel
theorem dX10_isLetter_12 : decode cX10_isLetter 12 = .ok (.iconst 1, 1) := by decide +kernel
theorem dX10_isLetter_13 : decode cX10_isLetter 13 = .ok (.goto 4, 3) := by decide +kernel
theorem dX10_isLetter_16 : decode cX10_isLetter 16 = .ok (.iconst 0, 1) := by decide +kernel
theorem dX10_isLetter_17 : decode cX10_isLetter 17 = .ok (.ireturn, 1) := by decide +kernel
theorem dX10_isFigure_0 : decode cX10_isFigure 0 = .ok (.iload_n 0, 1) := by decide +kernel
theorem dX10_isFigure_1 : decode cX10_isFigure 1 = .ok (.bipush 48, 2) := by decide +kernel
theorem dX10_isFigure_3 : decode cX10_isFigure 3 = .ok (.if_icmp .lt 13, 3) := by decide +kernel
theorem dX10_isFigure_6 : decode cX10_isFigure 6 = .ok (.iload_n 0, 1) := by decide +kernel
theorem dX10_isFigure_7 : decode cX10_isFigure 7 = .ok (.bipush 57, 2) := by decide +kernel
theorem dX10_isFigure_9 : decode cX10_isFigure 9 = .ok (.if_icmp .gt 7, 3) := by decide +kernel
theorem dX10_isFigure_12 : decode cX10_isFigure 12 = .ok (.iconst 1, 1) := by decide +kernel
theorem dX10_isFigure_13 : decode cX10_isFigure 13 = .ok (.goto 4, 3) := by decide +kernel
theorem dX10_isFigure_16 : decode cX10_isFigure 16 = .ok (.iconst 0, 1) := by decide +kernel
theorem dX10_isFigure_17 : decode cX10_isFigure 17 = .ok (.ireturn, 1) := by decide +kernel
theorem dX11_init_0 : decode cX11_init 0 = .ok (.aload_n 0, 1) := by decide +kernel
theorem dX11_init_1 : decode cX11_init 1 = .ok (.invokespecial 1, 3) := by decide +kernel
theorem dX11_init_4 : decode cX11_init 4 = .ok (.aload_n 0, 1) := by decide +kernel
theorem dX11_init_5 : decode cX11_init 5 = .ok (.sipush 400, 3) := by decide +kernel
theorem dX11_init_8 : decode cX11_init 8 = .ok (.newarray .int, 2) := by decide +kernel
theorem dX11_init_10 : decode cX11_init 10 = .ok (.putfield 9, 3) := by decide +kernel
theorem dX11_init_13 : decode cX11_init 13 = .ok (.aload_n 0, 1) := by decide +kernel
theorem dX11_init_14 : decode cX11_init 14 = .ok (.iconst (-1), 1) := by decide +kernel
theorem dX11_init_15 : decode cX11_init 15 = .ok (.putfield 13, 3) := by decide +kernel
theorem dX11_init_18 : decode cX11_init 18 = .ok (.aload_n 0, 1) := by decide +kernel
theorem dX11_init_19 : decode cX11_init 19 = .ok (.new 17, 3) := by decide +kernel
theorem dX11_init_22 : decode cX11_init 22 = .ok (.dup, 1) := by decide +kernel
theorem dX11_init_23 : decode cX11_init 23 = .ok (.invokespecial 19, 3) := by decide +kernel
theorem dX11_init_26 : decode cX11_init 26 = .ok (.putfield 20, 3) := by decide +kernel
theorem dX11_init_29 : decode cX11_init 29 = .ok (.aload_n 0, 1) := by decide +kernel
theorem dX11_init_30 : decode cX11_init 30 = .ok (.new 17, 3) := by decide +kernel
theorem dX11_init_33 : decode cX11_init 33 = .ok (.dup, 1) := by decide +kernel
theorem dX11_init_34 : decode cX11_init 34 = .ok (.invokespecial 19, 3) := by decide +kernel
theorem dX11_init_37 : decode cX11_init 37 = .ok (.putfield 24, 3) := by decide +kernel
theorem dX11_init_40 : decode cX11_init 40 = .ok (.aload_n 0, 1) := by decide +kernel
theorem dX11_init_41 : decode cX11_init 41 = .ok (.new 17, 3) := by decide +kernel
theorem dX11_init_44 : decode cX11_init 44 = .ok (.dup, 1) := by decide +kernel
theorem dX11_init_45 : decode cX11_init 45 = .ok (.invokespecial 19, 3) := by decide +kernel
theorem dX11_init_48 : decode cX11_init 48 = .ok (.putfield 27, 3) := by decide +kernel
theorem dX11_init_51 : decode cX11_init 51 = .ok (.aload_n 0, 1) := by decide +kernel
theorem dX11_init_52 : decode cX11_init 52 = .ok (.new 30, 3) := by decide +kernel
theorem dX11_init_55 : decode cX11_init 55 = .ok (.dup, 1) := by decide +kernel
theorem dX11_init_56 : decode cX11_init 56 = .ok (.invokespecial 32, 3) := by decide +kernel
theorem dX11_init_59 : decode cX11_init 59 = .ok (.putfield 33, 3) := by decide +kernel
theorem dX11_init_62 : decode cX11_init 62 = .ok (.aload_n 0, 1) := by decide +kernel
theorem dX11_init_63 : decode cX11_init 63 = .ok (.new 37, 3) := by decide +kernel
theorem dX11_init_66 : decode cX11_init 66 = .ok (.dup, 1) := by decide +kernel
theorem dX11_init_67 : decode cX11_init 67 = .ok (.invokespecial 39, 3) := by decide +kernel
theorem dX11_init_70 : decode cX11_init 70 = .ok (.putfield 40, 3) := by decide +kernel
theorem dX11_init_73 : decode cX11_init 73 = .ok (.aload_n 0, 1) := by decide +kernel
theorem dX11_init_74 : decode cX11_init 74 = .ok (.new 44, 3) := by decide +kernel
theorem dX11_init_77 : decode cX11_init 77 = .ok (.dup, 1) := by decide +kernel
theorem dX11_init_78 : decode cX11_init 78 = .ok (.invokespecial 46, 3) := by decide +kernel
theorem dX11_init_81 : decode cX11_init 81 = .ok (.putfield 47, 3) := by decide +kernel
theorem dX11_init_84 : decode cX11_init 84 = .ok (.aload_n 0, 1) := by decide +kernel
theorem dX11_init_85 : decode cX11_init 85 = .ok (.new 51, 3) := by decide +kernel
theorem dX11_init_88 : decode cX11_init 88 = .ok (.dup, 1) := by decide +kernel
theorem dX11_init_89 : decode cX11_init 89 = .ok (.invokespecial 53, 3) := by decide +kernel
theorem dX11_init_92 : decode cX11_init 92 = .ok (.putfield 54, 3) := by decide +kernel
theorem dX11_init_95 : decode cX11_init 95 = .ok (.aload_n 0, 1) := by decide +kernel
theorem dX11_init_96 : decode cX11_init 96 = .ok (.new 58, 3) := by decide +kernel
theorem dX11_init_99 : decode cX11_init 99 = .ok (.dup, 1) := by decide +kernel
theorem dX11_init_100 : decode cX11_init 100 = .ok (.invokespecial 60, 3) := by decide +kernel
theorem dX11_init_103 : decode cX11_init 103 = .ok (.putfield 61, 3) := by decide +kernel
theorem dX11_init_106 : decode cX11_init 106 = .ok (.return_, 1) := by decide +kernel
theorem dX11_feed_0 : decode cX11_feed 0 = .ok (.aload_n 0, 1) := by decide +kernel
theorem dX11_feed_1 : decode cX11_feed 1 = .ok (.getfield 65, 3) := by decide +kernel
theorem dX11_feed_4 : decode cX11_feed 4 = .ok (.bipush 20, 2) := by decide +kernel
theorem dX11_feed_6 : decode cX11_feed 6 = .ok (.iadd, 1) := by decide +kernel
theorem dX11_feed_7 : decode cX11_feed 7 = .ok (.sipush 400, 3) := by decide +kernel
theorem dX11_feed_10 : decode cX11_feed 10 = .ok (.if_icmp .le 5, 3) := by decide +kernel
theorem dX11_feed_13 : decode cX11_feed 13 = .ok (.iconst (-1), 1) := by decide +kernel
theorem dX11_feed_14 : decode cX11_feed 14 = .ok (.ireturn, 1) := by decide +kernel
theorem dX11_feed_15 : decode cX11_feed 15 = .ok (.aload_n 0, 1) := by decide +kernel
theorem dX11_feed_16 : decode cX11_feed 16 = .ok (.iload_n 1, 1) := by decide +kernel
theorem dX11_feed_17 : decode cX11_feed 17 = .ok (.invokevirtual 68, 3) := by decide +kernel
theorem dX11_feed_20 : decode cX11_feed 20 = .ok (.aload_n 0, 1) := by decide +kernel
theorem dX11_feed_21 : decode cX11_feed 21 = .ok (.iload_n 2, 1) := by decide +kernel
theorem dX11_feed_22 : decode cX11_feed 22 = .ok (.invokevirtual 68, 3) := by decide +kernel
theorem dX11_feed_25 : decode cX11_feed 25 = .ok (.aload_n 0, 1) := by decide +kernel
theorem dX11_feed_26 : decode cX11_feed 26 = .ok (.iload_n 3, 1) := by decide +kernel
theorem dX11_feed_27 : decode cX11_feed 27 = .ok (.invokevirtual 68, 3) := by decide +kernel
theorem dX11_feed_30 : decode cX11_feed 30 = .ok (.aload_n 0, 1) := by decide +kernel
theorem dX11_feed_31 : decode cX11_feed 31 = .ok (.iload 4, 2) := by decide +kernel
theorem dX11_feed_33 : decode cX11_feed 33 = .ok (.invokevirtual 68, 3) := by decide +kernel
theorem dX11_feed_36 : decode cX11_feed 36 = .ok (.aload_n 0, 1) := by decide +kernel
theorem dX11_feed_37 : decode cX11_feed 37 = .ok (.iload 5, 2) := by decide +kernel
theorem dX11_feed_39 : decode cX11_feed 39 = .ok (.invokevirtual 68, 3) := by decide +kernel
theorem dX11_feed_42 : decode cX11_feed 42 = .ok (.aload_n 0, 1) := by decide +kernel
theorem dX11_feed_43 : decode cX11_feed 43 = .ok (.getfield 65, 3) := by decide +kernel
theorem dX11_feed_46 : decode cX11_feed 46 = .ok (.ireturn, 1) := by decide +kernel
theorem dX11_end_0 : decode cX11_end 0 = .ok (.iload_n 1, 1) := by decide +kernel
theorem dX11_end_1 : decode cX11_end 1 = .ok (.ifCond .lt 11, 3) := by decide +kernel
theorem dX11_end_4 : decode cX11_end 4 = .ok (.iload_n 1, 1) := by decide +kernel
theorem dX11_end_5 : decode cX11_end 5 = .ok (.aload_n 0, 1) := by decide +kernel
theorem dX11_end_6 : decode cX11_end 6 = .ok (.getfield 65, 3) := by decide +kernel
theorem dX11_end_9 : decode cX11_end 9 = .ok (.if_icmp .le 5, 3) := by decide +kernel
theorem dX11_end_12 : decode cX11_end 12 = .ok (.iconst 0, 1) := by decide +kernel
theorem dX11_end_13 : decode cX11_end 13 = .ok (.ireturn, 1) := by decide +kernel
theorem dX11_end_14 : decode cX11_end 14 = .ok (.aload_n 0, 1) := by decide +kernel
theorem dX11_end_15 : decode cX11_end 15 = .ok (.iload_n 1, 1) := by decide +kernel
theorem dX11_end_16 : decode cX11_end 16 = .ok (.putfield 65, 3) := by decide +kernel
theorem dX11_end_19 : decode cX11_end 19 = .ok (.iconst 1, 1) := by decide +kernel
theorem dX11_end_20 : decode cX11_end 20 = .ok (.ireturn, 1) := by decide +kernel
theorem dX11_bank_0 : decode cX11_bank 0 = .ok (.aload_n 0, 1) := by decide +kernel
theorem dX11_bank_1 : decode cX11_bank 1 = .ok (.getfield 40, 3) := by decide +kernel
theorem dX11_bank_4 : decode cX11_bank 4 = .ok (.aload_n 0, 1) := by decide +kernel
theorem dX11_bank_5 : decode cX11_bank 5 = .ok (.getfield 9, 3) := by decide +kernel
theorem dX11_bank_8 : decode cX11_bank 8 = .ok (.aload_n 0, 1) := by decide +kernel
theorem dX11_bank_9 : decode cX11_bank 9 = .ok (.getfield 65, 3) := by decide +kernel
theorem dX11_bank_12 : decode cX11_bank 12 = .ok (.invokevirtual 72, 3) := by decide +kernel
theorem dX11_bank_15 : decode cX11_bank 15 = .ok (.aload_n 0, 1) := by decide +kernel
theorem dX11_bank_16 : decode cX11_bank 16 = .ok (.iconst 0, 1) := by decide +kernel
theorem dX11_bank_17 : decode cX11_bank 17 = .ok (.putfield 65, 3) := by decide +kernel
theorem dX11_bank_20 : decode cX11_bank 20 = .ok (.aload_n 0, 1) := by decide +kernel
theorem dX11_bank_21 : decode cX11_bank 21 = .ok (.getfield 24, 3) := by decide +kernel
theorem dX11_bank_24 : decode cX11_bank 24 = .ok (.aload_n 0, 1) := by decide +kernel
theorem dX11_bank_25 : decode cX11_bank 25 = .ok (.getfield 20, 3) := by decide +kernel
theorem dX11_bank_28 : decode cX11_bank 28 = .ok (.invokevirtual 76, 3) := by decide +kernel
theorem dX11_bank_31 : decode cX11_bank 31 = .ok (.aload_n 0, 1) := by decide +kernel
theorem dX11_bank_32 : decode cX11_bank 32 = .ok (.getfield 40, 3) := by decide +kernel
theorem dX11_bank_35 : decode cX11_bank 35 = .ok (.aload_n 0, 1) := by decide +kernel
theorem dX11_bank_36 : decode cX11_bank 36 = .ok (.getfield 24, 3) := by decide +kernel
theorem dX11_bank_39 : decode cX11_bank 39 = .ok (.invokestatic 80, 3) := by decide +kernel
theorem dX11_bank_42 : decode cX11_bank 42 = .ok (.istore_n 1, 1) := by decide +kernel
theorem dX11_bank_43 : decode cX11_bank 43 = .ok (.aload_n 0, 1) := by decide +kernel
theorem dX11_bank_44 : decode cX11_bank 44 = .ok (.iload_n 1, 1) := by decide +kernel
theorem dX11_bank_45 : decode cX11_bank 45 = .ok (.ifCond .eq 7, 3) := by decide +kernel
theorem dX11_bank_48 : decode cX11_bank 48 = .ok (.iconst (-1), 1) := by decide +kernel
theorem dX11_bank_49 : decode cX11_bank 49 = .ok (.goto 10, 3) := by decide +kernel
theorem dX11_bank_52 : decode cX11_bank 52 = .ok (.aload_n 0, 1) := by decide +kernel
theorem dX11_bank_53 : decode cX11_bank 53 = .ok (.getfield 40, 3) := by decide +kernel
theorem dX11_bank_56 : decode cX11_bank 56 = .ok (.getfield 86, 3) := by decide +kernel
theorem dX11_bank_59 : decode cX11_bank 59 = .ok (.putfield 13, 3) := by decide +kernel
theorem dX11_bank_62 : decode cX11_bank 62 = .ok (.iload_n 1, 1) := by decide +kernel
theorem dX11_bank_63 : decode cX11_bank 63 = .ok (.ifCond .ne 13, 3) := by decide +kernel
theorem dX11_bank_66 : decode cX11_bank 66 = .ok (.new 89, 3) := by decide +kernel
theorem dX11_bank_69 : decode cX11_bank 69 = .ok (.dup, 1) := by decide +kernel
theorem dX11_bank_70 : decode cX11_bank 70 = .ok (.ldc 91, 2) := by decide +kernel
theorem dX11_bank_72 : decode cX11_bank 72 = .ok (.invokespecial 93, 3) := by decide +kernel
theorem dX11_bank_75 : decode cX11_bank 75 = .ok (.athrow, 1) := by decide +kernel
theorem dX11_bank_76 : decode cX11_bank 76 = .ok (.aload_n 0, 1) := by decide +kernel
theorem dX11_bank_77 : decode cX11_bank 77 = .ok (.getfield 20, 3) := by decide +kernel
theorem dX11_bank_80 : decode cX11_bank 80 = .ok (.getfield 96, 3) := by decide +kernel
theorem dX11_bank_83 : decode cX11_bank 83 = .ok (.bipush 12, 2) := by decide +kernel
theorem dX11_bank_85 : decode cX11_bank 85 = .ok (.if_icmp .lt 13, 3) := by decide +kernel
theorem dX11_bank_88 : decode cX11_bank 88 = .ok (.new 99, 3) := by decide +kernel
theorem dX11_bank_91 : decode cX11_bank 91 = .ok (.dup, 1) := by decide +kernel
theorem dX11_bank_92 : decode cX11_bank 92 = .ok (.ldc 101, 2) := by decide +kernel
theorem dX11_bank_94 : decode cX11_bank 94 = .ok (.invokespecial 103, 3) := by decide +kernel
theorem dX11_bank_97 : decode cX11_bank 97 = .ok (.athrow, 1) := by decide +kernel
theorem dX11_bank_98 : decode cX11_bank 98 = .ok (.aload_n 0, 1) := by decide +kernel
theorem dX11_bank_99 : decode cX11_bank 99 = .ok (.getfield 20, 3) := by decide +kernel
theorem dX11_bank_102 : decode cX11_bank 102 = .ok (.aload_n 0, 1) := by decide +kernel
theorem dX11_bank_103 : decode cX11_bank 103 = .ok (.getfield 24, 3) := by decide +kernel
theorem dX11_bank_106 : decode cX11_bank 106 = .ok (.invokevirtual 76, 3) := by decide +kernel
theorem dX11_bank_109 : decode cX11_bank 109 = .ok (.aload_n 0, 1) := by decide +kernel
theorem dX11_bank_110 : decode cX11_bank 110 = .ok (.getfield 20, 3) := by decide +kernel
theorem dX11_bank_113 : decode cX11_bank 113 = .ok (.dup, 1) := by decide +kernel
theorem dX11_bank_114 : decode cX11_bank 114 = .ok (.getfield 96, 3) := by decide +kernel
theorem dX11_bank_117 : decode cX11_bank 117 = .ok (.iconst 1, 1) := by decide +kernel
theorem dX11_bank_118 : decode cX11_bank 118 = .ok (.iadd, 1) := by decide +kernel
theorem dX11_bank_119 : decode cX11_bank 119 = .ok (.putfield 96, 3) := by decide +kernel
theorem dX11_bank_122 : decode cX11_bank 122 = .ok (.aload_n 0, 1) := by decide +kernel
theorem dX11_bank_123 : decode cX11_bank 123 = .ok (.getfield 33, 3) := by decide +kernel
theorem dX11_bank_126 : decode cX11_bank 126 = .ok (.invokevirtual 104, 3) := by decide +kernel
theorem dX11_bank_129 : decode cX11_bank 129 = .ok (.aload_n 0, 1) := by decide +kernel
theorem dX11_bank_130 : decode cX11_bank 130 = .ok (.getfield 20, 3) := by decide +kernel
theorem dX11_bank_133 : decode cX11_bank 133 = .ok (.getfield 96, 3) := by decide +kernel
theorem dX11_bank_136 : decode cX11_bank 136 = .ok (.ireturn, 1) := by decide +kernel
theorem dX11_law_0 : decode cX11_law 0 = .ok (.aload_n 0, 1) := by decide +kernel
theorem dX11_law_1 : decode cX11_law 1 = .ok (.getfield 40, 3) := by decide +kernel
theorem dX11_law_4 : decode cX11_law 4 = .ok (.aload_n 0, 1) := by decide +kernel
theorem dX11_law_5 : decode cX11_law 5 = .ok (.getfield 9, 3) := by decide +kernel
theorem dX11_law_8 : decode cX11_law 8 = .ok (.aload_n 0, 1) := by decide +kernel
theorem dX11_law_9 : decode cX11_law 9 = .ok (.getfield 65, 3) := by decide +kernel
theorem dX11_law_12 : decode cX11_law 12 = .ok (.invokevirtual 72, 3) := by decide +kernel
theorem dX11_law_15 : decode cX11_law 15 = .ok (.aload_n 0, 1) := by decide +kernel
theorem dX11_law_16 : decode cX11_law 16 = .ok (.iconst 0, 1) := by decide +kernel
theorem dX11_law_17 : decode cX11_law 17 = .ok (.putfield 65, 3) := by decide +kernel
theorem dX11_law_20 : decode cX11_law 20 = .ok (.aload_n 0, 1) := by decide +kernel
theorem dX11_law_21 : decode cX11_law 21 = .ok (.getfield 47, 3) := by decide +kernel
theorem dX11_law_24 : decode cX11_law 24 = .ok (.aload_n 0, 1) := by decide +kernel
theorem dX11_law_25 : decode cX11_law 25 = .ok (.getfield 40, 3) := by decide +kernel
theorem dX11_law_28 : decode cX11_law 28 = .ok (.invokevirtual 107, 3) := by decide +kernel
theorem dX11_law_31 : decode cX11_law 31 = .ok (.astore_n 1, 1) := by decide +kernel
theorem dX11_law_32 : decode cX11_law 32 = .ok (.aload_n 0, 1) := by decide +kernel
theorem dX11_law_33 : decode cX11_law 33 = .ok (.aload_n 1, 1) := by decide +kernel
theorem dX11_law_34 : decode cX11_law 34 = .ok (.ifnonnull 13, 3) := by decide +kernel
theorem dX11_law_37 : decode cX11_law 37 = .ok (.aload_n 0, 1) := by decide +kernel
theorem dX11_law_38 : decode cX11_law 38 = .ok (.getfield 40, 3) := by decide +kernel
theorem dX11_law_41 : decode cX11_law 41 = .ok (.getfield 86, 3) := by decide +kernel
theorem dX11_law_44 : decode cX11_law 44 = .ok (.goto 4, 3) := by decide +kernel
theorem dX11_law_47 : decode cX11_law 47 = .ok (.iconst (-1), 1) := by decide +kernel
theorem dX11_law_48 : decode cX11_law 48 = .ok (.putfield 13, 3) := by decide +kernel
theorem dX11_law_51 : decode cX11_law 51 = .ok (.aload_n 1, 1) := by decide +kernel
theorem dX11_law_52 : decode cX11_law 52 = .ok (.ifnonnull 13, 3) := by decide +kernel
theorem dX11_law_55 : decode cX11_law 55 = .ok (.new 89, 3) := by decide +kernel
theorem dX11_law_58 : decode cX11_law 58 = .ok (.dup, 1) := by decide +kernel
theorem dX11_law_59 : decode cX11_law 59 = .ok (.ldc 91, 2) := by decide +kernel
theorem dX11_law_61 : decode cX11_law 61 = .ok (.invokespecial 93, 3) := by decide +kernel
theorem dX11_law_64 : decode cX11_law 64 = .ok (.athrow, 1) := by decide +kernel
theorem dX11_law_65 : decode cX11_law 65 = .ok (.aload_n 0, 1) := by decide +kernel
theorem dX11_law_66 : decode cX11_law 66 = .ok (.getfield 20, 3) := by decide +kernel
theorem dX11_law_69 : decode cX11_law 69 = .ok (.aload_n 1, 1) := by decide +kernel
theorem dX11_law_70 : decode cX11_law 70 = .ok (.putfield 110, 3) := by decide +kernel
theorem dX11_law_73 : decode cX11_law 73 = .ok (.aload_n 0, 1) := by decide +kernel
theorem dX11_law_74 : decode cX11_law 74 = .ok (.getfield 33, 3) := by decide +kernel
theorem dX11_law_77 : decode cX11_law 77 = .ok (.invokevirtual 104, 3) := by decide +kernel
theorem dX11_law_80 : decode cX11_law 80 = .ok (.aload_n 1, 1) := by decide +kernel
theorem dX11_law_81 : decode cX11_law 81 = .ok (.getfield 114, 3) := by decide +kernel
theorem dX11_law_84 : decode cX11_law 84 = .ok (.ireturn, 1) := by decide +kernel
theorem dX11_fault_0 : decode cX11_fault 0 = .ok (.aload_n 0, 1) := by decide +kernel
theorem dX11_fault_1 : decode cX11_fault 1 = .ok (.getfield 13, 3) := by decide +kernel
theorem dX11_fault_4 : decode cX11_fault 4 = .ok (.ireturn, 1) := by decide +kernel
theorem dX11_person_0 : decode cX11_person 0 = .ok (.aload_n 0, 1) := by decide +kernel
theorem dX11_person_1 : decode cX11_person 1 = .ok (.iload_n 1, 1) := by decide +kernel
theorem dX11_person_2 : decode cX11_person 2 = .ok (.invokevirtual 119, 3) := by decide +kernel
theorem dX11_person_5 : decode cX11_person 5 = .ok (.iload_n 2, 1) := by decide +kernel
theorem dX11_person_6 : decode cX11_person 6 = .ok (.tableswitch 157 0 9 #[54, 64, 74, 84, 101, 111, 121, 130, 139, 148], 54) := by decide +kernel
theorem dX11_person_60 : decode cX11_person 60 = .ok (.aload_n 0, 1) := by decide +kernel
theorem dX11_person_61 : decode cX11_person 61 = .ok (.getfield 20, 3) := by decide +kernel
theorem dX11_person_64 : decode cX11_person 64 = .ok (.getfield 122, 3) := by decide +kernel
theorem dX11_person_67 : decode cX11_person 67 = .ok (.iload_n 1, 1) := by decide +kernel
theorem dX11_person_68 : decode cX11_person 68 = .ok (.iaload, 1) := by decide +kernel
theorem dX11_person_69 : decode cX11_person 69 = .ok (.ireturn, 1) := by decide +kernel
theorem dX11_person_70 : decode cX11_person 70 = .ok (.aload_n 0, 1) := by decide +kernel
theorem dX11_person_71 : decode cX11_person 71 = .ok (.getfield 20, 3) := by decide +kernel
theorem dX11_person_74 : decode cX11_person 74 = .ok (.getfield 125, 3) := by decide +kernel
theorem dX11_person_77 : decode cX11_person 77 = .ok (.iload_n 1, 1) := by decide +kernel
theorem dX11_person_78 : decode cX11_person 78 = .ok (.iaload, 1) := by decide +kernel
theorem dX11_person_79 : decode cX11_person 79 = .ok (.ireturn, 1) := by decide +kernel
theorem dX11_person_80 : decode cX11_person 80 = .ok (.aload_n 0, 1) := by decide +kernel
theorem dX11_person_81 : decode cX11_person 81 = .ok (.getfield 20, 3) := by decide +kernel
theorem dX11_person_84 : decode cX11_person 84 = .ok (.getfield 128, 3) := by decide +kernel
theorem dX11_person_87 : decode cX11_person 87 = .ok (.iload_n 1, 1) := by decide +kernel
theorem dX11_person_88 : decode cX11_person 88 = .ok (.iaload, 1) := by decide +kernel
theorem dX11_person_89 : decode cX11_person 89 = .ok (.ireturn, 1) := by decide +kernel
theorem dX11_person_90 : decode cX11_person 90 = .ok (.aload_n 0, 1) := by decide +kernel
theorem dX11_person_91 : decode cX11_person 91 = .ok (.getfield 20, 3) := by decide +kernel
theorem dX11_person_94 : decode cX11_person 94 = .ok (.iload_n 1, 1) := by decide +kernel
theorem dX11_person_95 : decode cX11_person 95 = .ok (.invokevirtual 131, 3) := by decide +kernel
theorem dX11_person_98 : decode cX11_person 98 = .ok (.ifCond .eq 7, 3) := by decide +kernel
theorem dX11_person_101 : decode cX11_person 101 = .ok (.iconst 1, 1) := by decide +kernel
theorem dX11_person_102 : decode cX11_person 102 = .ok (.goto 4, 3) := by decide +kernel
theorem dX11_person_105 : decode cX11_person 105 = .ok (.iconst 0, 1) := by decide +kernel
theorem dX11_person_106 : decode cX11_person 106 = .ok (.ireturn, 1) := by decide +kernel
theorem dX11_person_107 : decode cX11_person 107 = .ok (.aload_n 0, 1) := by decide +kernel
theorem dX11_person_108 : decode cX11_person 108 = .ok (.getfield 20, 3) := by decide +kernel
theorem dX11_person_111 : decode cX11_person 111 = .ok (.getfield 135, 3) := by decide +kernel
theorem dX11_person_114 : decode cX11_person 114 = .ok (.iload_n 1, 1) := by decide +kernel
theorem dX11_person_115 : decode cX11_person 115 = .ok (.iaload, 1) := by decide +kernel
theorem dX11_person_116 : decode cX11_person 116 = .ok (.ireturn, 1) := by decide +kernel
theorem dX11_person_117 : decode cX11_person 117 = .ok (.aload_n 0, 1) := by decide +kernel
theorem dX11_person_118 : decode cX11_person 118 = .ok (.getfield 20, 3) := by decide +kernel
theorem dX11_person_121 : decode cX11_person 121 = .ok (.getfield 138, 3) := by decide +kernel
theorem dX11_person_124 : decode cX11_person 124 = .ok (.iload_n 1, 1) := by decide +kernel
theorem dX11_person_125 : decode cX11_person 125 = .ok (.iaload, 1) := by decide +kernel
theorem dX11_person_126 : decode cX11_person 126 = .ok (.ireturn, 1) := by decide +kernel
theorem dX11_person_127 : decode cX11_person 127 = .ok (.aload_n 0, 1) := by decide +kernel
theorem dX11_person_128 : decode cX11_person 128 = .ok (.getfield 20, 3) := by decide +kernel
theorem dX11_person_131 : decode cX11_person 131 = .ok (.iload_n 1, 1) := by decide +kernel
theorem dX11_person_132 : decode cX11_person 132 = .ok (.invokevirtual 141, 3) := by decide +kernel
theorem dX11_person_135 : decode cX11_person 135 = .ok (.ireturn, 1) := by decide +kernel
theorem dX11_person_136 : decode cX11_person 136 = .ok (.aload_n 0, 1) := by decide +kernel
theorem dX11_person_137 : decode cX11_person 137 = .ok (.getfield 20, 3) := by decide +kernel
theorem dX11_person_140 : decode cX11_person 140 = .ok (.iload_n 1, 1) := by decide +kernel
theorem dX11_person_141 : decode cX11_person 141 = .ok (.invokestatic 145, 3) := by decide +kernel
theorem dX11_person_144 : decode cX11_person 144 = .ok (.ireturn, 1) := by decide +kernel
theorem dX11_person_145 : decode cX11_person 145 = .ok (.aload_n 0, 1) := by decide +kernel
theorem dX11_person_146 : decode cX11_person 146 = .ok (.getfield 20, 3) := by decide +kernel
theorem dX11_person_149 : decode cX11_person 149 = .ok (.iload_n 1, 1) := by decide +kernel
theorem dX11_person_150 : decode cX11_person 150 = .ok (.invokestatic 151, 3) := by decide +kernel
theorem dX11_person_153 : decode cX11_person 153 = .ok (.ireturn, 1) := by decide +kernel
theorem dX11_person_154 : decode cX11_person 154 = .ok (.aload_n 0, 1) := by decide +kernel
theorem dX11_person_155 : decode cX11_person 155 = .ok (.getfield 20, 3) := by decide +kernel
theorem dX11_person_158 : decode cX11_person 158 = .ok (.iload_n 1, 1) := by decide +kernel
theorem dX11_person_159 : decode cX11_person 159 = .ok (.invokestatic 154, 3) := by decide +kernel
theorem dX11_person_162 : decode cX11_person 162 = .ok (.ireturn, 1) := by decide +kernel
theorem dX11_person_163 : decode cX11_person 163 = .ok (.new 157, 3) := by decide +kernel
theorem dX11_person_166 : decode cX11_person 166 = .ok (.dup, 1) := by decide +kernel
theorem dX11_person_167 : decode cX11_person 167 = .ok (.ldc 159, 2) := by decide +kernel
theorem dX11_person_169 : decode cX11_person 169 = .ok (.invokespecial 161, 3) := by decide +kernel
theorem dX11_person_172 : decode cX11_person 172 = .ok (.athrow, 1) := by decide +kernel
theorem dX11_pain_0 : decode cX11_pain 0 = .ok (.aload_n 0, 1) := by decide +kernel
theorem dX11_pain_1 : decode cX11_pain 1 = .ok (.iload_n 1, 1) := by decide +kernel
theorem dX11_pain_2 : decode cX11_pain 2 = .ok (.invokevirtual 119, 3) := by decide +kernel
theorem dX11_pain_5 : decode cX11_pain 5 = .ok (.aload_n 0, 1) := by decide +kernel
theorem dX11_pain_6 : decode cX11_pain 6 = .ok (.iload_n 2, 1) := by decide +kernel
theorem dX11_pain_7 : decode cX11_pain 7 = .ok (.invokevirtual 162, 3) := by decide +kernel
theorem dX11_pain_10 : decode cX11_pain 10 = .ok (.aload_n 0, 1) := by decide +kernel
theorem dX11_pain_11 : decode cX11_pain 11 = .ok (.getfield 20, 3) := by decide +kernel
theorem dX11_pain_14 : decode cX11_pain 14 = .ok (.iload_n 1, 1) := by decide +kernel
theorem dX11_pain_15 : decode cX11_pain 15 = .ok (.iload_n 2, 1) := by decide +kernel
theorem dX11_pain_16 : decode cX11_pain 16 = .ok (.invokevirtual 165, 3) := by decide +kernel
theorem dX11_pain_19 : decode cX11_pain 19 = .ok (.ireturn, 1) := by decide +kernel
theorem dX11_owed_0 : decode cX11_owed 0 = .ok (.aload_n 0, 1) := by decide +kernel
theorem dX11_owed_1 : decode cX11_owed 1 = .ok (.iload_n 1, 1) := by decide +kernel
theorem dX11_owed_2 : decode cX11_owed 2 = .ok (.iload_n 2, 1) := by decide +kernel
theorem dX11_owed_3 : decode cX11_owed 3 = .ok (.invokevirtual 169, 3) := by decide +kernel
theorem dX11_owed_6 : decode cX11_owed 6 = .ok (.aload_n 0, 1) := by decide +kernel
theorem dX11_owed_7 : decode cX11_owed 7 = .ok (.getfield 20, 3) := by decide +kernel
theorem dX11_owed_10 : decode cX11_owed 10 = .ok (.getfield 173, 3) := by decide +kernel
theorem dX11_owed_13 : decode cX11_owed 13 = .ok (.iload_n 1, 1) := by decide +kernel
theorem dX11_owed_14 : decode cX11_owed 14 = .ok (.bipush 8, 2) := by decide +kernel
theorem dX11_owed_16 : decode cX11_owed 16 = .ok (.imul, 1) := by decide +kernel
theorem dX11_owed_17 : decode cX11_owed 17 = .ok (.iload_n 2, 1) := by decide +kernel
theorem dX11_owed_18 : decode cX11_owed 18 = .ok (.iadd, 1) := by decide +kernel
theorem dX11_owed_19 : decode cX11_owed 19 = .ok (.iaload, 1) := by decide +kernel
theorem dX11_owed_20 : decode cX11_owed 20 = .ok (.ireturn, 1) := by decide +kernel
theorem dX11_today_0 : decode cX11_today 0 = .ok (.aload_n 0, 1) := by decide +kernel
theorem dX11_today_1 : decode cX11_today 1 = .ok (.iload_n 1, 1) := by decide +kernel
theorem dX11_today_2 : decode cX11_today 2 = .ok (.invokevirtual 119, 3) := by decide +kernel
theorem dX11_today_5 : decode cX11_today 5 = .ok (.aload_n 0, 1) := by decide +kernel
theorem dX11_today_6 : decode cX11_today 6 = .ok (.iload_n 1, 1) := by decide +kernel
theorem dX11_today_7 : decode cX11_today 7 = .ok (.invokevirtual 176, 3) := by decide +kernel
theorem dX11_today_10 : decode cX11_today 10 = .ok (.iload_n 2, 1) := by decide +kernel
theorem dX11_today_11 : decode cX11_today 11 = .ok (.ifCond .lt 8, 3) := by decide +kernel
theorem dX11_today_14 : decode cX11_today 14 = .ok (.iload_n 2, 1) := by decide +kernel
theorem dX11_today_15 : decode cX11_today 15 = .ok (.iconst 2, 1) := by decide +kernel
theorem dX11_today_16 : decode cX11_today 16 = .ok (.if_icmp .le 13, 3) := by decide +kernel
theorem dX11_today_19 : decode cX11_today 19 = .ok (.new 157, 3) := by decide +kernel
theorem dX11_today_22 : decode cX11_today 22 = .ok (.dup, 1) := by decide +kernel
theorem dX11_today_23 : decode cX11_today 23 = .ok (.ldc 159, 2) := by decide +kernel
theorem dX11_today_25 : decode cX11_today 25 = .ok (.invokespecial 161, 3) := by decide +kernel
theorem dX11_today_28 : decode cX11_today 28 = .ok (.athrow, 1) := by decide +kernel
theorem dX11_today_29 : decode cX11_today 29 = .ok (.aload_n 0, 1) := by decide +kernel
theorem dX11_today_30 : decode cX11_today 30 = .ok (.iconst 1, 1) := by decide +kernel
theorem dX11_today_31 : decode cX11_today 31 = .ok (.invokevirtual 179, 3) := by decide +kernel
theorem dX11_today_34 : decode cX11_today 34 = .ok (.iload_n 2, 1) := by decide +kernel
theorem dX11_today_35 : decode cX11_today 35 = .ok (.ifCond .ne 13, 3) := by decide +kernel
theorem dX11_today_38 : decode cX11_today 38 = .ok (.aload_n 0, 1) := by decide +kernel
theorem dX11_today_39 : decode cX11_today 39 = .ok (.getfield 54, 3) := by decide +kernel
theorem dX11_today_42 : decode cX11_today 42 = .ok (.getfield 182, 3) := by decide +kernel
theorem dX11_today_45 : decode cX11_today 45 = .ok (.iload_n 1, 1) := by decide +kernel
theorem dX11_today_46 : decode cX11_today 46 = .ok (.iaload, 1) := by decide +kernel
theorem dX11_today_47 : decode cX11_today 47 = .ok (.ireturn, 1) := by decide +kernel
theorem dX11_today_48 : decode cX11_today 48 = .ok (.iload_n 2, 1) := by decide +kernel
theorem dX11_today_49 : decode cX11_today 49 = .ok (.iconst 1, 1) := by decide +kernel
theorem dX11_today_50 : decode cX11_today 50 = .ok (.if_icmp .ne 15, 3) := by decide +kernel
theorem dX11_today_53 : decode cX11_today 53 = .ok (.aload_n 0, 1) := by decide +kernel
theorem dX11_today_54 : decode cX11_today 54 = .ok (.getfield 54, 3) := by decide +kernel
theorem dX11_today_57 : decode cX11_today 57 = .ok (.getfield 185, 3) := by decide +kernel
theorem dX11_today_60 : decode cX11_today 60 = .ok (.iload_n 1, 1) := by decide +kernel
theorem dX11_today_61 : decode cX11_today 61 = .ok (.iaload, 1) := by decide +kernel
theorem dX11_today_62 : decode cX11_today 62 = .ok (.goto 12, 3) := by decide +kernel
theorem dX11_today_65 : decode cX11_today 65 = .ok (.aload_n 0, 1) := by decide +kernel
theorem dX11_today_66 : decode cX11_today 66 = .ok (.getfield 54, 3) := by decide +kernel
theorem dX11_today_69 : decode cX11_today 69 = .ok (.getfield 188, 3) := by decide +kernel
theorem dX11_today_72 : decode cX11_today 72 = .ok (.iload_n 1, 1) := by decide +kernel
theorem dX11_today_73 : decode cX11_today 73 = .ok (.iaload, 1) := by decide +kernel
theorem dX11_today_74 : decode cX11_today 74 = .ok (.ireturn, 1) := by decide +kernel
theorem dX11_put_0 : decode cX11_put 0 = .ok (.aload_n 0, 1) := by decide +kernel
theorem dX11_put_1 : decode cX11_put 1 = .ok (.iload_n 1, 1) := by decide +kernel
theorem dX11_put_2 : decode cX11_put 2 = .ok (.invokevirtual 119, 3) := by decide +kernel
theorem dX11_put_5 : decode cX11_put 5 = .ok (.aload_n 0, 1) := by decide +kernel
theorem dX11_put_6 : decode cX11_put 6 = .ok (.iload_n 2, 1) := by decide +kernel
theorem dX11_put_7 : decode cX11_put 7 = .ok (.iconst 1, 1) := by decide +kernel
theorem dX11_put_8 : decode cX11_put 8 = .ok (.sipush 9999, 3) := by decide +kernel
theorem dX11_put_11 : decode cX11_put 11 = .ok (.invokevirtual 191, 3) := by decide +kernel
theorem dX11_put_14 : decode cX11_put 14 = .ok (.aload_n 0, 1) := by decide +kernel
theorem dX11_put_15 : decode cX11_put 15 = .ok (.aload_n 0, 1) := by decide +kernel
theorem dX11_put_16 : decode cX11_put 16 = .ok (.getfield 20, 3) := by decide +kernel
theorem dX11_put_19 : decode cX11_put 19 = .ok (.getfield 125, 3) := by decide +kernel
theorem dX11_put_22 : decode cX11_put 22 = .ok (.iload_n 1, 1) := by decide +kernel
theorem dX11_put_23 : decode cX11_put 23 = .ok (.iaload, 1) := by decide +kernel
theorem dX11_put_24 : decode cX11_put 24 = .ok (.iload_n 2, 1) := by decide +kernel
theorem dX11_put_25 : decode cX11_put 25 = .ok (.iadd, 1) := by decide +kernel
theorem dX11_put_26 : decode cX11_put 26 = .ok (.iconst 0, 1) := by decide +kernel
theorem dX11_put_27 : decode cX11_put 27 = .ok (.ldc 195, 2) := by decide +kernel
theorem dX11_put_29 : decode cX11_put 29 = .ok (.invokevirtual 191, 3) := by decide +kernel
theorem dX11_put_32 : decode cX11_put 32 = .ok (.aload_n 0, 1) := by decide +kernel
theorem dX11_put_33 : decode cX11_put 33 = .ok (.iload_n 1, 1) := by decide +kernel
theorem dX11_put_34 : decode cX11_put 34 = .ok (.invokevirtual 176, 3) := by decide +kernel
theorem dX11_put_37 : decode cX11_put 37 = .ok (.aload_n 0, 1) := by decide +kernel
theorem dX11_put_38 : decode cX11_put 38 = .ok (.invokevirtual 196, 3) := by decide +kernel
theorem dX11_put_41 : decode cX11_put 41 = .ok (.aload_n 0, 1) := by decide +kernel
theorem dX11_put_42 : decode cX11_put 42 = .ok (.getfield 33, 3) := by decide +kernel
theorem dX11_put_45 : decode cX11_put 45 = .ok (.aload_n 0, 1) := by decide +kernel
theorem dX11_put_46 : decode cX11_put 46 = .ok (.getfield 20, 3) := by decide +kernel
theorem dX11_put_49 : decode cX11_put 49 = .ok (.invokevirtual 199, 3) := by decide +kernel
theorem dX11_put_52 : decode cX11_put 52 = .ok (.aload_n 0, 1) := by decide +kernel
theorem dX11_put_53 : decode cX11_put 53 = .ok (.getfield 20, 3) := by decide +kernel
theorem dX11_put_56 : decode cX11_put 56 = .ok (.getfield 125, 3) := by decide +kernel
theorem dX11_put_59 : decode cX11_put 59 = .ok (.iload_n 1, 1) := by decide +kernel
theorem dX11_put_60 : decode cX11_put 60 = .ok (.dup2, 1) := by decide +kernel
theorem dX11_put_61 : decode cX11_put 61 = .ok (.iaload, 1) := by decide +kernel
theorem dX11_put_62 : decode cX11_put 62 = .ok (.iload_n 2, 1) := by decide +kernel
theorem dX11_put_63 : decode cX11_put 63 = .ok (.iadd, 1) := by decide +kernel
theorem dX11_put_64 : decode cX11_put 64 = .ok (.iastore, 1) := by decide +kernel
theorem dX11_put_65 : decode cX11_put 65 = .ok (.aload_n 0, 1) := by decide +kernel
theorem dX11_put_66 : decode cX11_put 66 = .ok (.getfield 20, 3) := by decide +kernel
theorem dX11_put_69 : decode cX11_put 69 = .ok (.getfield 125, 3) := by decide +kernel
theorem dX11_put_72 : decode cX11_put 72 = .ok (.iload_n 1, 1) := by decide +kernel
theorem dX11_put_73 : decode cX11_put 73 = .ok (.iaload, 1) := by decide +kernel
theorem dX11_put_74 : decode cX11_put 74 = .ok (.ireturn, 1) := by decide +kernel
theorem dX11_draw_0 : decode cX11_draw 0 = .ok (.aload_n 0, 1) := by decide +kernel
theorem dX11_draw_1 : decode cX11_draw 1 = .ok (.iload_n 1, 1) := by decide +kernel
theorem dX11_draw_2 : decode cX11_draw 2 = .ok (.invokevirtual 119, 3) := by decide +kernel
theorem dX11_draw_5 : decode cX11_draw 5 = .ok (.aload_n 0, 1) := by decide +kernel
theorem dX11_draw_6 : decode cX11_draw 6 = .ok (.iload_n 2, 1) := by decide +kernel
theorem dX11_draw_7 : decode cX11_draw 7 = .ok (.iconst 1, 1) := by decide +kernel
theorem dX11_draw_8 : decode cX11_draw 8 = .ok (.aload_n 0, 1) := by decide +kernel
theorem dX11_draw_9 : decode cX11_draw 9 = .ok (.getfield 20, 3) := by decide +kernel
theorem dX11_draw_12 : decode cX11_draw 12 = .ok (.getfield 125, 3) := by decide +kernel
theorem dX11_draw_15 : decode cX11_draw 15 = .ok (.iload_n 1, 1) := by decide +kernel
theorem dX11_draw_16 : decode cX11_draw 16 = .ok (.iaload, 1) := by decide +kernel
theorem dX11_draw_17 : decode cX11_draw 17 = .ok (.invokevirtual 191, 3) := by decide +kernel
theorem dX11_draw_20 : decode cX11_draw 20 = .ok (.aload_n 0, 1) := by decide +kernel
theorem dX11_draw_21 : decode cX11_draw 21 = .ok (.iload_n 1, 1) := by decide +kernel
theorem dX11_draw_22 : decode cX11_draw 22 = .ok (.invokevirtual 176, 3) := by decide +kernel
theorem dX11_draw_25 : decode cX11_draw 25 = .ok (.aload_n 0, 1) := by decide +kernel
theorem dX11_draw_26 : decode cX11_draw 26 = .ok (.invokevirtual 196, 3) := by decide +kernel
theorem dX11_draw_29 : decode cX11_draw 29 = .ok (.aload_n 0, 1) := by decide +kernel
theorem dX11_draw_30 : decode cX11_draw 30 = .ok (.getfield 33, 3) := by decide +kernel
theorem dX11_draw_33 : decode cX11_draw 33 = .ok (.aload_n 0, 1) := by decide +kernel
theorem dX11_draw_34 : decode cX11_draw 34 = .ok (.getfield 20, 3) := by decide +kernel
theorem dX11_draw_37 : decode cX11_draw 37 = .ok (.invokevirtual 199, 3) := by decide +kernel
theorem dX11_draw_40 : decode cX11_draw 40 = .ok (.iload_n 2, 1) := by decide +kernel
theorem dX11_draw_41 : decode cX11_draw 41 = .ok (.aload_n 0, 1) := by decide +kernel
theorem dX11_draw_42 : decode cX11_draw 42 = .ok (.getfield 20, 3) := by decide +kernel
theorem dX11_draw_45 : decode cX11_draw 45 = .ok (.getfield 128, 3) := by decide +kernel
theorem dX11_draw_48 : decode cX11_draw 48 = .ok (.iload_n 1, 1) := by decide +kernel
theorem dX11_draw_49 : decode cX11_draw 49 = .ok (.iaload, 1) := by decide +kernel
theorem dX11_draw_50 : decode cX11_draw 50 = .ok (.invokestatic 202, 3) := by decide +kernel
theorem dX11_draw_53 : decode cX11_draw 53 = .ok (.istore_n 3, 1) := by decide +kernel
theorem dX11_draw_54 : decode cX11_draw 54 = .ok (.aload_n 0, 1) := by decide +kernel
theorem dX11_draw_55 : decode cX11_draw 55 = .ok (.getfield 20, 3) := by decide +kernel
theorem dX11_draw_58 : decode cX11_draw 58 = .ok (.getfield 128, 3) := by decide +kernel
theorem dX11_draw_61 : decode cX11_draw 61 = .ok (.iload_n 1, 1) := by decide +kernel
theorem dX11_draw_62 : decode cX11_draw 62 = .ok (.dup2, 1) := by decide +kernel
theorem dX11_draw_63 : decode cX11_draw 63 = .ok (.iaload, 1) := by decide +kernel
theorem dX11_draw_64 : decode cX11_draw 64 = .ok (.iload_n 3, 1) := by decide +kernel
theorem dX11_draw_65 : decode cX11_draw 65 = .ok (.isub, 1) := by decide +kernel
theorem dX11_draw_66 : decode cX11_draw 66 = .ok (.iastore, 1) := by decide +kernel
theorem dX11_draw_67 : decode cX11_draw 67 = .ok (.aload_n 0, 1) := by decide +kernel
theorem dX11_draw_68 : decode cX11_draw 68 = .ok (.getfield 20, 3) := by decide +kernel
theorem dX11_draw_71 : decode cX11_draw 71 = .ok (.getfield 125, 3) := by decide +kernel
theorem dX11_draw_74 : decode cX11_draw 74 = .ok (.iload_n 1, 1) := by decide +kernel
theorem dX11_draw_75 : decode cX11_draw 75 = .ok (.dup2, 1) := by decide +kernel
theorem dX11_draw_76 : decode cX11_draw 76 = .ok (.iaload, 1) := by decide +kernel
theorem dX11_draw_77 : decode cX11_draw 77 = .ok (.iload_n 2, 1) := by decide +kernel
theorem dX11_draw_78 : decode cX11_draw 78 = .ok (.isub, 1) := by decide +kernel
theorem dX11_draw_79 : decode cX11_draw 79 = .ok (.iastore, 1) := by decide +kernel
theorem dX11_draw_80 : decode cX11_draw 80 = .ok (.iload_n 2, 1) := by decide +kernel
theorem dX11_draw_81 : decode cX11_draw 81 = .ok (.iload_n 3, 1) := by decide +kernel
theorem dX11_draw_82 : decode cX11_draw 82 = .ok (.isub, 1) := by decide +kernel
theorem dX11_draw_83 : decode cX11_draw 83 = .ok (.ireturn, 1) := by decide +kernel
theorem dX11_cheque_0 : decode cX11_cheque 0 = .ok (.aload_n 0, 1) := by decide +kernel
theorem dX11_cheque_1 : decode cX11_cheque 1 = .ok (.iload_n 1, 1) := by decide +kernel
theorem dX11_cheque_2 : decode cX11_cheque 2 = .ok (.iload_n 2, 1) := by decide +kernel
theorem dX11_cheque_3 : decode cX11_cheque 3 = .ok (.invokevirtual 169, 3) := by decide +kernel
theorem dX11_cheque_6 : decode cX11_cheque 6 = .ok (.aload_n 0, 1) := by decide +kernel
theorem dX11_cheque_7 : decode cX11_cheque 7 = .ok (.iload_n 3, 1) := by decide +kernel
theorem dX11_cheque_8 : decode cX11_cheque 8 = .ok (.iconst 1, 1) := by decide +kernel
theorem dX11_cheque_9 : decode cX11_cheque 9 = .ok (.aload_n 0, 1) := by decide +kernel
theorem dX11_cheque_10 : decode cX11_cheque 10 = .ok (.getfield 20, 3) := by decide +kernel
theorem dX11_cheque_13 : decode cX11_cheque 13 = .ok (.getfield 125, 3) := by decide +kernel
theorem dX11_cheque_16 : decode cX11_cheque 16 = .ok (.iload_n 1, 1) := by decide +kernel
theorem dX11_cheque_17 : decode cX11_cheque 17 = .ok (.iaload, 1) := by decide +kernel
theorem dX11_cheque_18 : decode cX11_cheque 18 = .ok (.invokevirtual 191, 3) := by decide +kernel
theorem dX11_cheque_21 : decode cX11_cheque 21 = .ok (.aload_n 0, 1) := by decide +kernel
theorem dX11_cheque_22 : decode cX11_cheque 22 = .ok (.aload_n 0, 1) := by decide +kernel
theorem dX11_cheque_23 : decode cX11_cheque 23 = .ok (.getfield 20, 3) := by decide +kernel
theorem dX11_cheque_26 : decode cX11_cheque 26 = .ok (.getfield 125, 3) := by decide +kernel
theorem dX11_cheque_29 : decode cX11_cheque 29 = .ok (.iload_n 2, 1) := by decide +kernel
theorem dX11_cheque_30 : decode cX11_cheque 30 = .ok (.iaload, 1) := by decide +kernel
theorem dX11_cheque_31 : decode cX11_cheque 31 = .ok (.iload_n 3, 1) := by decide +kernel
theorem dX11_cheque_32 : decode cX11_cheque 32 = .ok (.iadd, 1) := by decide +kernel
theorem dX11_cheque_33 : decode cX11_cheque 33 = .ok (.iconst 0, 1) := by decide +kernel
theorem dX11_cheque_34 : decode cX11_cheque 34 = .ok (.ldc 195, 2) := by decide +kernel
theorem dX11_cheque_36 : decode cX11_cheque 36 = .ok (.invokevirtual 191, 3) := by decide +kernel
theorem dX11_cheque_39 : decode cX11_cheque 39 = .ok (.aload_n 0, 1) := by decide +kernel
theorem dX11_cheque_40 : decode cX11_cheque 40 = .ok (.iload_n 1, 1) := by decide +kernel
theorem dX11_cheque_41 : decode cX11_cheque 41 = .ok (.invokevirtual 176, 3) := by decide +kernel
theorem dX11_cheque_44 : decode cX11_cheque 44 = .ok (.aload_n 0, 1) := by decide +kernel
theorem dX11_cheque_45 : decode cX11_cheque 45 = .ok (.iload_n 2, 1) := by decide +kernel
theorem dX11_cheque_46 : decode cX11_cheque 46 = .ok (.invokevirtual 176, 3) := by decide +kernel
theorem dX11_cheque_49 : decode cX11_cheque 49 = .ok (.aload_n 0, 1) := by decide +kernel
theorem dX11_cheque_50 : decode cX11_cheque 50 = .ok (.invokevirtual 196, 3) := by decide +kernel
theorem dX11_cheque_53 : decode cX11_cheque 53 = .ok (.aload_n 0, 1) := by decide +kernel
theorem dX11_cheque_54 : decode cX11_cheque 54 = .ok (.getfield 33, 3) := by decide +kernel
theorem dX11_cheque_57 : decode cX11_cheque 57 = .ok (.aload_n 0, 1) := by decide +kernel
theorem dX11_cheque_58 : decode cX11_cheque 58 = .ok (.getfield 20, 3) := by decide +kernel
theorem dX11_cheque_61 : decode cX11_cheque 61 = .ok (.invokevirtual 199, 3) := by decide +kernel
theorem dX11_cheque_64 : decode cX11_cheque 64 = .ok (.aload_n 0, 1) := by decide +kernel
theorem dX11_cheque_65 : decode cX11_cheque 65 = .ok (.getfield 20, 3) := by decide +kernel
theorem dX11_cheque_68 : decode cX11_cheque 68 = .ok (.getfield 125, 3) := by decide +kernel
theorem dX11_cheque_71 : decode cX11_cheque 71 = .ok (.iload_n 1, 1) := by decide +kernel
theorem dX11_cheque_72 : decode cX11_cheque 72 = .ok (.dup2, 1) := by decide +kernel
theorem dX11_cheque_73 : decode cX11_cheque 73 = .ok (.iaload, 1) := by decide +kernel
theorem dX11_cheque_74 : decode cX11_cheque 74 = .ok (.iload_n 3, 1) := by decide +kernel
theorem dX11_cheque_75 : decode cX11_cheque 75 = .ok (.isub, 1) := by decide +kernel
theorem dX11_cheque_76 : decode cX11_cheque 76 = .ok (.iastore, 1) := by decide +kernel
theorem dX11_cheque_77 : decode cX11_cheque 77 = .ok (.aload_n 0, 1) := by decide +kernel
theorem dX11_cheque_78 : decode cX11_cheque 78 = .ok (.getfield 20, 3) := by decide +kernel
theorem dX11_cheque_81 : decode cX11_cheque 81 = .ok (.getfield 125, 3) := by decide +kernel
theorem dX11_cheque_84 : decode cX11_cheque 84 = .ok (.iload_n 2, 1) := by decide +kernel
theorem dX11_cheque_85 : decode cX11_cheque 85 = .ok (.dup2, 1) := by decide +kernel
theorem dX11_cheque_86 : decode cX11_cheque 86 = .ok (.iaload, 1) := by decide +kernel
theorem dX11_cheque_87 : decode cX11_cheque 87 = .ok (.iload_n 3, 1) := by decide +kernel
theorem dX11_cheque_88 : decode cX11_cheque 88 = .ok (.iadd, 1) := by decide +kernel
theorem dX11_cheque_89 : decode cX11_cheque 89 = .ok (.iastore, 1) := by decide +kernel
theorem dX11_cheque_90 : decode cX11_cheque 90 = .ok (.iconst 0, 1) := by decide +kernel
theorem dX11_cheque_91 : decode cX11_cheque 91 = .ok (.aload_n 0, 1) := by decide +kernel
theorem dX11_cheque_92 : decode cX11_cheque 92 = .ok (.getfield 20, 3) := by decide +kernel
theorem dX11_cheque_95 : decode cX11_cheque 95 = .ok (.getfield 128, 3) := by decide +kernel
theorem dX11_cheque_98 : decode cX11_cheque 98 = .ok (.iload_n 1, 1) := by decide +kernel
theorem dX11_cheque_99 : decode cX11_cheque 99 = .ok (.iaload, 1) := by decide +kernel
theorem dX11_cheque_100 : decode cX11_cheque 100 = .ok (.aload_n 0, 1) := by decide +kernel
theorem dX11_cheque_101 : decode cX11_cheque 101 = .ok (.getfield 20, 3) := by decide +kernel
theorem dX11_cheque_104 : decode cX11_cheque 104 = .ok (.getfield 125, 3) := by decide +kernel
theorem dX11_cheque_107 : decode cX11_cheque 107 = .ok (.iload_n 1, 1) := by decide +kernel
theorem dX11_cheque_108 : decode cX11_cheque 108 = .ok (.iaload, 1) := by decide +kernel
theorem dX11_cheque_109 : decode cX11_cheque 109 = .ok (.isub, 1) := by decide +kernel
theorem dX11_cheque_110 : decode cX11_cheque 110 = .ok (.invokestatic 207, 3) := by decide +kernel
theorem dX11_cheque_113 : decode cX11_cheque 113 = .ok (.istore 4, 2) := by decide +kernel
theorem dX11_cheque_115 : decode cX11_cheque 115 = .ok (.aload_n 0, 1) := by decide +kernel
theorem dX11_cheque_116 : decode cX11_cheque 116 = .ok (.getfield 20, 3) := by decide +kernel
theorem dX11_cheque_119 : decode cX11_cheque 119 = .ok (.getfield 128, 3) := by decide +kernel
theorem dX11_cheque_122 : decode cX11_cheque 122 = .ok (.iload_n 1, 1) := by decide +kernel
theorem dX11_cheque_123 : decode cX11_cheque 123 = .ok (.dup2, 1) := by decide +kernel
theorem dX11_cheque_124 : decode cX11_cheque 124 = .ok (.iaload, 1) := by decide +kernel
theorem dX11_cheque_125 : decode cX11_cheque 125 = .ok (.iload 4, 2) := by decide +kernel
theorem dX11_cheque_127 : decode cX11_cheque 127 = .ok (.isub, 1) := by decide +kernel
theorem dX11_cheque_128 : decode cX11_cheque 128 = .ok (.iastore, 1) := by decide +kernel
theorem dX11_cheque_129 : decode cX11_cheque 129 = .ok (.aload_n 0, 1) := by decide +kernel
theorem dX11_cheque_130 : decode cX11_cheque 130 = .ok (.getfield 20, 3) := by decide +kernel
theorem dX11_cheque_133 : decode cX11_cheque 133 = .ok (.getfield 128, 3) := by decide +kernel
theorem dX11_cheque_136 : decode cX11_cheque 136 = .ok (.iload_n 2, 1) := by decide +kernel
theorem dX11_cheque_137 : decode cX11_cheque 137 = .ok (.dup2, 1) := by decide +kernel
theorem dX11_cheque_138 : decode cX11_cheque 138 = .ok (.iaload, 1) := by decide +kernel
theorem dX11_cheque_139 : decode cX11_cheque 139 = .ok (.iload 4, 2) := by decide +kernel
theorem dX11_cheque_141 : decode cX11_cheque 141 = .ok (.iadd, 1) := by decide +kernel
theorem dX11_cheque_142 : decode cX11_cheque 142 = .ok (.iastore, 1) := by decide +kernel
theorem dX11_cheque_143 : decode cX11_cheque 143 = .ok (.aload_n 0, 1) := by decide +kernel
theorem dX11_cheque_144 : decode cX11_cheque 144 = .ok (.getfield 20, 3) := by decide +kernel
theorem dX11_cheque_147 : decode cX11_cheque 147 = .ok (.getfield 125, 3) := by decide +kernel
theorem dX11_cheque_150 : decode cX11_cheque 150 = .ok (.iload_n 2, 1) := by decide +kernel
theorem dX11_cheque_151 : decode cX11_cheque 151 = .ok (.iaload, 1) := by decide +kernel
theorem dX11_cheque_152 : decode cX11_cheque 152 = .ok (.ireturn, 1) := by decide +kernel
theorem dX11_owe_0 : decode cX11_owe 0 = .ok (.aload_n 0, 1) := by decide +kernel
theorem dX11_owe_1 : decode cX11_owe 1 = .ok (.iload_n 1, 1) := by decide +kernel
theorem dX11_owe_2 : decode cX11_owe 2 = .ok (.iload_n 2, 1) := by decide +kernel
theorem dX11_owe_3 : decode cX11_owe 3 = .ok (.invokevirtual 169, 3) := by decide +kernel
theorem dX11_owe_6 : decode cX11_owe 6 = .ok (.aload_n 0, 1) := by decide +kernel
theorem dX11_owe_7 : decode cX11_owe 7 = .ok (.iload_n 3, 1) := by decide +kernel
theorem dX11_owe_8 : decode cX11_owe 8 = .ok (.iconst 1, 1) := by decide +kernel
theorem dX11_owe_9 : decode cX11_owe 9 = .ok (.sipush 999, 3) := by decide +kernel
theorem dX11_owe_12 : decode cX11_owe 12 = .ok (.invokevirtual 191, 3) := by decide +kernel
theorem dX11_owe_15 : decode cX11_owe 15 = .ok (.aload_n 0, 1) := by decide +kernel
theorem dX11_owe_16 : decode cX11_owe 16 = .ok (.getfield 20, 3) := by decide +kernel
theorem dX11_owe_19 : decode cX11_owe 19 = .ok (.getfield 173, 3) := by decide +kernel
theorem dX11_owe_22 : decode cX11_owe 22 = .ok (.iload_n 1, 1) := by decide +kernel
theorem dX11_owe_23 : decode cX11_owe 23 = .ok (.bipush 8, 2) := by decide +kernel
theorem dX11_owe_25 : decode cX11_owe 25 = .ok (.imul, 1) := by decide +kernel
theorem dX11_owe_26 : decode cX11_owe 26 = .ok (.iload_n 2, 1) := by decide +kernel
theorem dX11_owe_27 : decode cX11_owe 27 = .ok (.iadd, 1) := by decide +kernel
theorem dX11_owe_28 : decode cX11_owe 28 = .ok (.iaload, 1) := by decide +kernel
theorem dX11_owe_29 : decode cX11_owe 29 = .ok (.iload_n 3, 1) := by decide +kernel
theorem dX11_owe_30 : decode cX11_owe 30 = .ok (.iadd, 1) := by decide +kernel
theorem dX11_owe_31 : decode cX11_owe 31 = .ok (.istore 4, 2) := by decide +kernel
theorem dX11_owe_33 : decode cX11_owe 33 = .ok (.iload 4, 2) := by decide +kernel
theorem dX11_owe_35 : decode cX11_owe 35 = .ok (.sipush 9999, 3) := by decide +kernel
theorem dX11_owe_38 : decode cX11_owe 38 = .ok (.if_icmp .le 13, 3) := by decide +kernel
theorem dX11_owe_41 : decode cX11_owe 41 = .ok (.new 210, 3) := by decide +kernel
theorem dX11_owe_44 : decode cX11_owe 44 = .ok (.dup, 1) := by decide +kernel
theorem dX11_owe_45 : decode cX11_owe 45 = .ok (.ldc 212, 2) := by decide +kernel
theorem dX11_owe_47 : decode cX11_owe 47 = .ok (.invokespecial 214, 3) := by decide +kernel
theorem dX11_owe_50 : decode cX11_owe 50 = .ok (.athrow, 1) := by decide +kernel
theorem dX11_owe_51 : decode cX11_owe 51 = .ok (.aload_n 0, 1) := by decide +kernel
theorem dX11_owe_52 : decode cX11_owe 52 = .ok (.getfield 33, 3) := by decide +kernel
theorem dX11_owe_55 : decode cX11_owe 55 = .ok (.aload_n 0, 1) := by decide +kernel
theorem dX11_owe_56 : decode cX11_owe 56 = .ok (.getfield 20, 3) := by decide +kernel
theorem dX11_owe_59 : decode cX11_owe 59 = .ok (.invokevirtual 199, 3) := by decide +kernel
theorem dX11_owe_62 : decode cX11_owe 62 = .ok (.aload_n 0, 1) := by decide +kernel
theorem dX11_owe_63 : decode cX11_owe 63 = .ok (.getfield 20, 3) := by decide +kernel
theorem dX11_owe_66 : decode cX11_owe 66 = .ok (.getfield 173, 3) := by decide +kernel
theorem dX11_owe_69 : decode cX11_owe 69 = .ok (.iload_n 1, 1) := by decide +kernel
theorem dX11_owe_70 : decode cX11_owe 70 = .ok (.bipush 8, 2) := by decide +kernel
theorem dX11_owe_72 : decode cX11_owe 72 = .ok (.imul, 1) := by decide +kernel
theorem dX11_owe_73 : decode cX11_owe 73 = .ok (.iload_n 2, 1) := by decide +kernel
theorem dX11_owe_74 : decode cX11_owe 74 = .ok (.iadd, 1) := by decide +kernel
theorem dX11_owe_75 : decode cX11_owe 75 = .ok (.iload 4, 2) := by decide +kernel
theorem dX11_owe_77 : decode cX11_owe 77 = .ok (.iastore, 1) := by decide +kernel
theorem dX11_owe_78 : decode cX11_owe 78 = .ok (.iload 4, 2) := by decide +kernel
theorem dX11_owe_80 : decode cX11_owe 80 = .ok (.ireturn, 1) := by decide +kernel
theorem dX11_net_0 : decode cX11_net 0 = .ok (.aload_n 0, 1) := by decide +kernel
theorem dX11_net_1 : decode cX11_net 1 = .ok (.getfield 33, 3) := by decide +kernel
theorem dX11_net_4 : decode cX11_net 4 = .ok (.aload_n 0, 1) := by decide +kernel
theorem dX11_net_5 : decode cX11_net 5 = .ok (.getfield 20, 3) := by decide +kernel
theorem dX11_net_8 : decode cX11_net 8 = .ok (.invokevirtual 199, 3) := by decide +kernel
theorem dX11_net_11 : decode cX11_net 11 = .ok (.aload_n 0, 1) := by decide +kernel
theorem dX11_net_12 : decode cX11_net 12 = .ok (.getfield 61, 3) := by decide +kernel
theorem dX11_net_15 : decode cX11_net 15 = .ok (.aload_n 0, 1) := by decide +kernel
theorem dX11_net_16 : decode cX11_net 16 = .ok (.getfield 20, 3) := by decide +kernel
theorem dX11_net_19 : decode cX11_net 19 = .ok (.invokevirtual 215, 3) := by decide +kernel
theorem dX11_net_22 : decode cX11_net 22 = .ok (.ireturn, 1) := by decide +kernel
theorem dX11_die_0 : decode cX11_die 0 = .ok (.aload_n 0, 1) := by decide +kernel
theorem dX11_die_1 : decode cX11_die 1 = .ok (.iload_n 1, 1) := by decide +kernel
theorem dX11_die_2 : decode cX11_die 2 = .ok (.invokevirtual 119, 3) := by decide +kernel
theorem dX11_die_5 : decode cX11_die 5 = .ok (.aload_n 0, 1) := by decide +kernel
theorem dX11_die_6 : decode cX11_die 6 = .ok (.iload_n 1, 1) := by decide +kernel
theorem dX11_die_7 : decode cX11_die 7 = .ok (.invokevirtual 176, 3) := by decide +kernel
theorem dX11_die_10 : decode cX11_die 10 = .ok (.aload_n 0, 1) := by decide +kernel
theorem dX11_die_11 : decode cX11_die 11 = .ok (.getfield 33, 3) := by decide +kernel
theorem dX11_die_14 : decode cX11_die 14 = .ok (.aload_n 0, 1) := by decide +kernel
theorem dX11_die_15 : decode cX11_die 15 = .ok (.getfield 20, 3) := by decide +kernel
theorem dX11_die_18 : decode cX11_die 18 = .ok (.invokevirtual 199, 3) := by decide +kernel
theorem dX11_die_21 : decode cX11_die 21 = .ok (.aload_n 0, 1) := by decide +kernel
theorem dX11_die_22 : decode cX11_die 22 = .ok (.getfield 20, 3) := by decide +kernel
theorem dX11_die_25 : decode cX11_die 25 = .ok (.dup, 1) := by decide +kernel
theorem dX11_die_26 : decode cX11_die 26 = .ok (.getfield 219, 3) := by decide +kernel
theorem dX11_die_29 : decode cX11_die 29 = .ok (.iconst 1, 1) := by decide +kernel
theorem dX11_die_30 : decode cX11_die 30 = .ok (.iload_n 1, 1) := by decide +kernel
theorem dX11_die_31 : decode cX11_die 31 = .ok (.ishl, 1) := by decide +kernel
theorem dX11_die_32 : decode cX11_die 32 = .ok (.iconst (-1), 1) := by decide +kernel
theorem dX11_die_33 : decode cX11_die 33 = .ok (.ixor, 1) := by decide +kernel
theorem dX11_die_34 : decode cX11_die 34 = .ok (.iand, 1) := by decide +kernel
theorem dX11_die_35 : decode cX11_die 35 = .ok (.putfield 219, 3) := by decide +kernel
theorem dX11_die_38 : decode cX11_die 38 = .ok (.aload_n 0, 1) := by decide +kernel
theorem dX11_die_39 : decode cX11_die 39 = .ok (.getfield 20, 3) := by decide +kernel
theorem dX11_die_42 : decode cX11_die 42 = .ok (.getfield 135, 3) := by decide +kernel
theorem dX11_die_45 : decode cX11_die 45 = .ok (.iload_n 1, 1) := by decide +kernel
theorem dX11_die_46 : decode cX11_die 46 = .ok (.iaload, 1) := by decide +kernel
theorem dX11_die_47 : decode cX11_die 47 = .ok (.istore_n 2, 1) := by decide +kernel
theorem dX11_die_48 : decode cX11_die 48 = .ok (.aload_n 0, 1) := by decide +kernel
theorem dX11_die_49 : decode cX11_die 49 = .ok (.getfield 20, 3) := by decide +kernel
theorem dX11_die_52 : decode cX11_die 52 = .ok (.iload_n 2, 1) := by decide +kernel
theorem dX11_die_53 : decode cX11_die 53 = .ok (.invokevirtual 131, 3) := by decide +kernel
theorem dX11_die_56 : decode cX11_die 56 = .ok (.ifCond .ne 8, 3) := by decide +kernel
theorem dX11_die_59 : decode cX11_die 59 = .ok (.iconst (-1), 1) := by decide +kernel
theorem dX11_die_60 : decode cX11_die 60 = .ok (.istore_n 2, 1) := by decide +kernel
theorem dX11_die_61 : decode cX11_die 61 = .ok (.goto 76, 3) := by decide +kernel
theorem dX11_die_64 : decode cX11_die 64 = .ok (.aload_n 0, 1) := by decide +kernel
theorem dX11_die_65 : decode cX11_die 65 = .ok (.getfield 20, 3) := by decide +kernel
theorem dX11_die_68 : decode cX11_die 68 = .ok (.getfield 125, 3) := by decide +kernel
theorem dX11_die_71 : decode cX11_die 71 = .ok (.iload_n 2, 1) := by decide +kernel
theorem dX11_die_72 : decode cX11_die 72 = .ok (.ldc 195, 2) := by decide +kernel
theorem dX11_die_74 : decode cX11_die 74 = .ok (.aload_n 0, 1) := by decide +kernel
theorem dX11_die_75 : decode cX11_die 75 = .ok (.getfield 20, 3) := by decide +kernel
theorem dX11_die_78 : decode cX11_die 78 = .ok (.getfield 125, 3) := by decide +kernel
theorem dX11_die_81 : decode cX11_die 81 = .ok (.iload_n 2, 1) := by decide +kernel
theorem dX11_die_82 : decode cX11_die 82 = .ok (.iaload, 1) := by decide +kernel
theorem dX11_die_83 : decode cX11_die 83 = .ok (.aload_n 0, 1) := by decide +kernel
theorem dX11_die_84 : decode cX11_die 84 = .ok (.getfield 20, 3) := by decide +kernel
theorem dX11_die_87 : decode cX11_die 87 = .ok (.getfield 125, 3) := by decide +kernel
theorem dX11_die_90 : decode cX11_die 90 = .ok (.iload_n 1, 1) := by decide +kernel
theorem dX11_die_91 : decode cX11_die 91 = .ok (.iaload, 1) := by decide +kernel
theorem dX11_die_92 : decode cX11_die 92 = .ok (.iadd, 1) := by decide +kernel
theorem dX11_die_93 : decode cX11_die 93 = .ok (.invokestatic 202, 3) := by decide +kernel
theorem dX11_die_96 : decode cX11_die 96 = .ok (.iastore, 1) := by decide +kernel
theorem dX11_die_97 : decode cX11_die 97 = .ok (.aload_n 0, 1) := by decide +kernel
theorem dX11_die_98 : decode cX11_die 98 = .ok (.getfield 20, 3) := by decide +kernel
theorem dX11_die_101 : decode cX11_die 101 = .ok (.getfield 128, 3) := by decide +kernel
theorem dX11_die_104 : decode cX11_die 104 = .ok (.iload_n 2, 1) := by decide +kernel
theorem dX11_die_105 : decode cX11_die 105 = .ok (.aload_n 0, 1) := by decide +kernel
theorem dX11_die_106 : decode cX11_die 106 = .ok (.getfield 20, 3) := by decide +kernel
theorem dX11_die_109 : decode cX11_die 109 = .ok (.getfield 125, 3) := by decide +kernel
theorem dX11_die_112 : decode cX11_die 112 = .ok (.iload_n 2, 1) := by decide +kernel
theorem dX11_die_113 : decode cX11_die 113 = .ok (.iaload, 1) := by decide +kernel
theorem dX11_die_114 : decode cX11_die 114 = .ok (.aload_n 0, 1) := by decide +kernel
theorem dX11_die_115 : decode cX11_die 115 = .ok (.getfield 20, 3) := by decide +kernel
theorem dX11_die_118 : decode cX11_die 118 = .ok (.getfield 128, 3) := by decide +kernel
theorem dX11_die_121 : decode cX11_die 121 = .ok (.iload_n 2, 1) := by decide +kernel
theorem dX11_die_122 : decode cX11_die 122 = .ok (.iaload, 1) := by decide +kernel
theorem dX11_die_123 : decode cX11_die 123 = .ok (.aload_n 0, 1) := by decide +kernel
theorem dX11_die_124 : decode cX11_die 124 = .ok (.getfield 20, 3) := by decide +kernel
theorem dX11_die_127 : decode cX11_die 127 = .ok (.getfield 128, 3) := by decide +kernel
theorem dX11_die_130 : decode cX11_die 130 = .ok (.iload_n 1, 1) := by decide +kernel
theorem dX11_die_131 : decode cX11_die 131 = .ok (.iaload, 1) := by decide +kernel
theorem dX11_die_132 : decode cX11_die 132 = .ok (.iadd, 1) := by decide +kernel
theorem dX11_die_133 : decode cX11_die 133 = .ok (.invokestatic 202, 3) := by decide +kernel
theorem dX11_die_136 : decode cX11_die 136 = .ok (.iastore, 1) := by decide +kernel
theorem dX11_die_137 : decode cX11_die 137 = .ok (.aload_n 0, 1) := by decide +kernel
theorem dX11_die_138 : decode cX11_die 138 = .ok (.getfield 20, 3) := by decide +kernel
theorem dX11_die_141 : decode cX11_die 141 = .ok (.getfield 125, 3) := by decide +kernel
theorem dX11_die_144 : decode cX11_die 144 = .ok (.iload_n 1, 1) := by decide +kernel
theorem dX11_die_145 : decode cX11_die 145 = .ok (.iconst 0, 1) := by decide +kernel
theorem dX11_die_146 : decode cX11_die 146 = .ok (.iastore, 1) := by decide +kernel
theorem dX11_die_147 : decode cX11_die 147 = .ok (.aload_n 0, 1) := by decide +kernel
theorem dX11_die_148 : decode cX11_die 148 = .ok (.getfield 20, 3) := by decide +kernel
theorem dX11_die_151 : decode cX11_die 151 = .ok (.getfield 128, 3) := by decide +kernel
theorem dX11_die_154 : decode cX11_die 154 = .ok (.iload_n 1, 1) := by decide +kernel
theorem dX11_die_155 : decode cX11_die 155 = .ok (.iconst 0, 1) := by decide +kernel
theorem dX11_die_156 : decode cX11_die 156 = .ok (.iastore, 1) := by decide +kernel
theorem dX11_die_157 : decode cX11_die 157 = .ok (.iload_n 2, 1) := by decide +kernel
theorem dX11_die_158 : decode cX11_die 158 = .ok (.ireturn, 1) := by decide +kernel
theorem dX11_hear_0 : decode cX11_hear 0 = .ok (.aload_n 0, 1) := by decide +kernel
theorem dX11_hear_1 : decode cX11_hear 1 = .ok (.iload_n 1, 1) := by decide +kernel
theorem dX11_hear_2 : decode cX11_hear 2 = .ok (.invokevirtual 119, 3) := by decide +kernel
theorem dX11_hear_5 : decode cX11_hear 5 = .ok (.aload_n 0, 1) := by decide +kernel
theorem dX11_hear_6 : decode cX11_hear 6 = .ok (.getfield 33, 3) := by decide +kernel
theorem dX11_hear_9 : decode cX11_hear 9 = .ok (.aload_n 0, 1) := by decide +kernel
theorem dX11_hear_10 : decode cX11_hear 10 = .ok (.getfield 20, 3) := by decide +kernel
theorem dX11_hear_13 : decode cX11_hear 13 = .ok (.invokevirtual 199, 3) := by decide +kernel
theorem dX11_hear_16 : decode cX11_hear 16 = .ok (.aload_n 0, 1) := by decide +kernel
theorem dX11_hear_17 : decode cX11_hear 17 = .ok (.getfield 20, 3) := by decide +kernel
theorem dX11_hear_20 : decode cX11_hear 20 = .ok (.getfield 138, 3) := by decide +kernel
theorem dX11_hear_23 : decode cX11_hear 23 = .ok (.iload_n 1, 1) := by decide +kernel
theorem dX11_hear_24 : decode cX11_hear 24 = .ok (.iaload, 1) := by decide +kernel
theorem dX11_hear_25 : decode cX11_hear 25 = .ok (.istore_n 3, 1) := by decide +kernel
theorem dX11_hear_26 : decode cX11_hear 26 = .ok (.aload_n 0, 1) := by decide +kernel
theorem dX11_hear_27 : decode cX11_hear 27 = .ok (.getfield 20, 3) := by decide +kernel
theorem dX11_hear_30 : decode cX11_hear 30 = .ok (.getfield 138, 3) := by decide +kernel
theorem dX11_hear_33 : decode cX11_hear 33 = .ok (.iload_n 1, 1) := by decide +kernel
theorem dX11_hear_34 : decode cX11_hear 34 = .ok (.iload_n 2, 1) := by decide +kernel
theorem dX11_hear_35 : decode cX11_hear 35 = .ok (.aload_n 0, 1) := by decide +kernel
theorem dX11_hear_36 : decode cX11_hear 36 = .ok (.getfield 20, 3) := by decide +kernel
theorem dX11_hear_39 : decode cX11_hear 39 = .ok (.invokevirtual 222, 3) := by decide +kernel
theorem dX11_hear_42 : decode cX11_hear 42 = .ok (.iand, 1) := by decide +kernel
theorem dX11_hear_43 : decode cX11_hear 43 = .ok (.iconst 1, 1) := by decide +kernel
theorem dX11_hear_44 : decode cX11_hear 44 = .ok (.iload_n 1, 1) := by decide +kernel
theorem dX11_hear_45 : decode cX11_hear 45 = .ok (.ishl, 1) := by decide +kernel
theorem dX11_hear_46 : decode cX11_hear 46 = .ok (.iconst (-1), 1) := by decide +kernel
theorem dX11_hear_47 : decode cX11_hear 47 = .ok (.ixor, 1) := by decide +kernel
theorem dX11_hear_48 : decode cX11_hear 48 = .ok (.iand, 1) := by decide +kernel
theorem dX11_hear_49 : decode cX11_hear 49 = .ok (.iastore, 1) := by decide +kernel
theorem dX11_hear_50 : decode cX11_hear 50 = .ok (.iload_n 3, 1) := by decide +kernel
theorem dX11_hear_51 : decode cX11_hear 51 = .ok (.ireturn, 1) := by decide +kernel
theorem dX11_refound_0 : decode cX11_refound 0 = .ok (.aload_n 0, 1) := by decide +kernel
theorem dX11_refound_1 : decode cX11_refound 1 = .ok (.getfield 33, 3) := by decide +kernel
theorem dX11_refound_4 : decode cX11_refound 4 = .ok (.aload_n 0, 1) := by decide +kernel
theorem dX11_refound_5 : decode cX11_refound 5 = .ok (.getfield 20, 3) := by decide +kernel
theorem dX11_refound_8 : decode cX11_refound 8 = .ok (.invokevirtual 199, 3) := by decide +kernel
theorem dX11_refound_11 : decode cX11_refound 11 = .ok (.aload_n 0, 1) := by decide +kernel
theorem dX11_refound_12 : decode cX11_refound 12 = .ok (.getfield 20, 3) := by decide +kernel
theorem dX11_refound_15 : decode cX11_refound 15 = .ok (.getfield 226, 3) := by decide +kernel
theorem dX11_refound_18 : decode cX11_refound 18 = .ok (.istore_n 1, 1) := by decide +kernel
theorem dX11_refound_19 : decode cX11_refound 19 = .ok (.aload_n 0, 1) := by decide +kernel
theorem dX11_refound_20 : decode cX11_refound 20 = .ok (.getfield 20, 3) := by decide +kernel
theorem dX11_refound_23 : decode cX11_refound 23 = .ok (.iconst 0, 1) := by decide +kernel
theorem dX11_refound_24 : decode cX11_refound 24 = .ok (.putfield 226, 3) := by decide +kernel
theorem dX11_refound_27 : decode cX11_refound 27 = .ok (.iload_n 1, 1) := by decide +kernel
theorem dX11_refound_28 : decode cX11_refound 28 = .ok (.ireturn, 1) := by decide +kernel
theorem dX11_days_0 : decode cX11_days 0 = .ok (.aload_n 0, 1) := by decide +kernel
theorem dX11_days_1 : decode cX11_days 1 = .ok (.iload_n 1, 1) := by decide +kernel
theorem dX11_days_2 : decode cX11_days 2 = .ok (.iconst 1, 1) := by decide +kernel
theorem dX11_days_3 : decode cX11_days 3 = .ok (.bipush 60, 2) := by decide +kernel
theorem dX11_days_5 : decode cX11_days 5 = .ok (.invokevirtual 191, 3) := by decide +kernel
theorem dX11_days_8 : decode cX11_days 8 = .ok (.aload_n 0, 1) := by decide +kernel
theorem dX11_days_9 : decode cX11_days 9 = .ok (.getfield 33, 3) := by decide +kernel
theorem dX11_days_12 : decode cX11_days 12 = .ok (.aload_n 0, 1) := by decide +kernel
theorem dX11_days_13 : decode cX11_days 13 = .ok (.getfield 20, 3) := by decide +kernel
theorem dX11_days_16 : decode cX11_days 16 = .ok (.invokevirtual 199, 3) := by decide +kernel
theorem dX11_days_19 : decode cX11_days 19 = .ok (.iconst 0, 1) := by decide +kernel
theorem dX11_days_20 : decode cX11_days 20 = .ok (.istore_n 2, 1) := by decide +kernel
theorem dX11_days_21 : decode cX11_days 21 = .ok (.iconst 0, 1) := by decide +kernel
theorem dX11_days_22 : decode cX11_days 22 = .ok (.istore_n 3, 1) := by decide +kernel
theorem dX11_days_23 : decode cX11_days 23 = .ok (.iload_n 3, 1) := by decide +kernel
theorem dX11_days_24 : decode cX11_days 24 = .ok (.iload_n 1, 1) := by decide +kernel
theorem dX11_days_25 : decode cX11_days 25 = .ok (.if_icmp .ge 55, 3) := by decide +kernel
theorem dX11_days_28 : decode cX11_days 28 = .ok (.aload_n 0, 1) := by decide +kernel
theorem dX11_days_29 : decode cX11_days 29 = .ok (.getfield 20, 3) := by decide +kernel
theorem dX11_days_32 : decode cX11_days 32 = .ok (.getfield 230, 3) := by decide +kernel
theorem dX11_days_35 : decode cX11_days 35 = .ok (.istore 4, 2) := by decide +kernel
theorem dX11_days_37 : decode cX11_days 37 = .ok (.aload_n 0, 1) := by decide +kernel
theorem dX11_days_38 : decode cX11_days 38 = .ok (.getfield 54, 3) := by decide +kernel
theorem dX11_days_41 : decode cX11_days 41 = .ok (.aload_n 0, 1) := by decide +kernel
theorem dX11_days_42 : decode cX11_days 42 = .ok (.getfield 20, 3) := by decide +kernel
theorem dX11_days_45 : decode cX11_days 45 = .ok (.iconst 1, 1) := by decide +kernel
theorem dX11_days_46 : decode cX11_days 46 = .ok (.invokevirtual 233, 3) := by decide +kernel
theorem dX11_days_49 : decode cX11_days 49 = .ok (.istore 5, 2) := by decide +kernel
theorem dX11_days_51 : decode cX11_days 51 = .ok (.iload 5, 2) := by decide +kernel
theorem dX11_days_53 : decode cX11_days 53 = .ok (.ifCond .le 16, 3) := by decide +kernel
theorem dX11_days_56 : decode cX11_days 56 = .ok (.aload_n 0, 1) := by decide +kernel
theorem dX11_days_57 : decode cX11_days 57 = .ok (.getfield 54, 3) := by decide +kernel
theorem dX11_days_60 : decode cX11_days 60 = .ok (.aload_n 0, 1) := by decide +kernel
theorem dX11_days_61 : decode cX11_days 61 = .ok (.getfield 20, 3) := by decide +kernel
theorem dX11_days_64 : decode cX11_days 64 = .ok (.iload 4, 2) := by decide +kernel
theorem dX11_days_66 : decode cX11_days 66 = .ok (.invokevirtual 237, 3) := by decide +kernel
theorem dX11_days_69 : decode cX11_days 69 = .ok (.iload_n 2, 1) := by decide +kernel
theorem dX11_days_70 : decode cX11_days 70 = .ok (.iload 5, 2) := by decide +kernel
theorem dX11_days_72 : decode cX11_days 72 = .ok (.iadd, 1) := by decide +kernel
theorem dX11_days_73 : decode cX11_days 73 = .ok (.istore_n 2, 1) := by decide +kernel
theorem dX11_days_74 : decode cX11_days 74 = .ok (.iinc 3 1, 3) := by decide +kernel
theorem dX11_days_77 : decode cX11_days 77 = .ok (.goto (-54), 3) := by decide +kernel
theorem dX11_days_80 : decode cX11_days 80 = .ok (.aload_n 0, 1) := by decide +kernel
theorem dX11_days_81 : decode cX11_days 81 = .ok (.getfield 20, 3) := by decide +kernel
theorem dX11_days_84 : decode cX11_days 84 = .ok (.dup, 1) := by decide +kernel
theorem dX11_days_85 : decode cX11_days 85 = .ok (.getfield 241, 3) := by decide +kernel
theorem dX11_days_88 : decode cX11_days 88 = .ok (.iload_n 2, 1) := by decide +kernel
theorem dX11_days_89 : decode cX11_days 89 = .ok (.iadd, 1) := by decide +kernel
theorem dX11_days_90 : decode cX11_days 90 = .ok (.putfield 241, 3) := by decide +kernel
theorem dX11_days_93 : decode cX11_days 93 = .ok (.iload_n 2, 1) := by decide +kernel
theorem dX11_days_94 : decode cX11_days 94 = .ok (.ireturn, 1) := by decide +kernel
theorem dX11_ahead_0 : decode cX11_ahead 0 = .ok (.aload_n 0, 1) := by decide +kernel
theorem dX11_ahead_1 : decode cX11_ahead 1 = .ok (.iload_n 1, 1) := by decide +kernel
theorem dX11_ahead_2 : decode cX11_ahead 2 = .ok (.invokevirtual 119, 3) := by decide +kernel
theorem dX11_ahead_5 : decode cX11_ahead 5 = .ok (.aload_n 0, 1) := by decide +kernel
theorem dX11_ahead_6 : decode cX11_ahead 6 = .ok (.iload_n 2, 1) := by decide +kernel
theorem dX11_ahead_7 : decode cX11_ahead 7 = .ok (.iconst 0, 1) := by decide +kernel
theorem dX11_ahead_8 : decode cX11_ahead 8 = .ok (.bipush 60, 2) := by decide +kernel
theorem dX11_ahead_10 : decode cX11_ahead 10 = .ok (.invokevirtual 191, 3) := by decide +kernel
theorem dX11_ahead_13 : decode cX11_ahead 13 = .ok (.aload_n 0, 1) := by decide +kernel
theorem dX11_ahead_14 : decode cX11_ahead 14 = .ok (.iload_n 2, 1) := by decide +kernel
theorem dX11_ahead_15 : decode cX11_ahead 15 = .ok (.invokevirtual 179, 3) := by decide +kernel
theorem dX11_ahead_18 : decode cX11_ahead 18 = .ok (.aload_n 0, 1) := by decide +kernel
theorem dX11_ahead_19 : decode cX11_ahead 19 = .ok (.getfield 24, 3) := by decide +kernel
theorem dX11_ahead_22 : decode cX11_ahead 22 = .ok (.getfield 125, 3) := by decide +kernel
theorem dX11_ahead_25 : decode cX11_ahead 25 = .ok (.iload_n 1, 1) := by decide +kernel
theorem dX11_ahead_26 : decode cX11_ahead 26 = .ok (.iaload, 1) := by decide +kernel
theorem dX11_ahead_27 : decode cX11_ahead 27 = .ok (.ireturn, 1) := by decide +kernel
theorem dX11_fails_0 : decode cX11_fails 0 = .ok (.aload_n 0, 1) := by decide +kernel
theorem dX11_fails_1 : decode cX11_fails 1 = .ok (.iload_n 1, 1) := by decide +kernel
theorem dX11_fails_2 : decode cX11_fails 2 = .ok (.iconst 0, 1) := by decide +kernel
theorem dX11_fails_3 : decode cX11_fails 3 = .ok (.bipush 60, 2) := by decide +kernel
theorem dX11_fails_5 : decode cX11_fails 5 = .ok (.invokevirtual 191, 3) := by decide +kernel
theorem dX11_fails_8 : decode cX11_fails 8 = .ok (.aload_n 0, 1) := by decide +kernel
theorem dX11_fails_9 : decode cX11_fails 9 = .ok (.iload_n 1, 1) := by decide +kernel
theorem dX11_fails_10 : decode cX11_fails 10 = .ok (.invokevirtual 179, 3) := by decide +kernel
theorem dX11_fails_13 : decode cX11_fails 13 = .ok (.aload_n 0, 1) := by decide +kernel
theorem dX11_fails_14 : decode cX11_fails 14 = .ok (.getfield 24, 3) := by decide +kernel
theorem dX11_fails_17 : decode cX11_fails 17 = .ok (.getfield 226, 3) := by decide +kernel
theorem dX11_fails_20 : decode cX11_fails 20 = .ok (.ireturn, 1) := by decide +kernel
theorem dX11_first_0 : decode cX11_first 0 = .ok (.aload_n 0, 1) := by decide +kernel
theorem dX11_first_1 : decode cX11_first 1 = .ok (.getfield 24, 3) := by decide +kernel
theorem dX11_first_4 : decode cX11_first 4 = .ok (.aload_n 0, 1) := by decide +kernel
theorem dX11_first_5 : decode cX11_first 5 = .ok (.getfield 20, 3) := by decide +kernel
theorem dX11_first_8 : decode cX11_first 8 = .ok (.invokevirtual 76, 3) := by decide +kernel
theorem dX11_first_11 : decode cX11_first 11 = .ok (.iconst 1, 1) := by decide +kernel
theorem dX11_first_12 : decode cX11_first 12 = .ok (.istore_n 2, 1) := by decide +kernel
theorem dX11_first_13 : decode cX11_first 13 = .ok (.iload_n 2, 1) := by decide +kernel
theorem dX11_first_14 : decode cX11_first 14 = .ok (.bipush 60, 2) := by decide +kernel
theorem dX11_first_16 : decode cX11_first 16 = .ok (.if_icmp .gt 44, 3) := by decide +kernel
theorem dX11_first_19 : decode cX11_first 19 = .ok (.aload_n 0, 1) := by decide +kernel
theorem dX11_first_20 : decode cX11_first 20 = .ok (.getfield 54, 3) := by decide +kernel
theorem dX11_first_23 : decode cX11_first 23 = .ok (.aload_n 0, 1) := by decide +kernel
theorem dX11_first_24 : decode cX11_first 24 = .ok (.getfield 24, 3) := by decide +kernel
theorem dX11_first_27 : decode cX11_first 27 = .ok (.iconst 0, 1) := by decide +kernel
theorem dX11_first_28 : decode cX11_first 28 = .ok (.invokevirtual 233, 3) := by decide +kernel
theorem dX11_first_31 : decode cX11_first 31 = .ok (.ifCond .le 23, 3) := by decide +kernel
theorem dX11_first_34 : decode cX11_first 34 = .ok (.iload_n 1, 1) := by decide +kernel
theorem dX11_first_35 : decode cX11_first 35 = .ok (.ifCond .eq 17, 3) := by decide +kernel
theorem dX11_first_38 : decode cX11_first 38 = .ok (.aload_n 0, 1) := by decide +kernel
theorem dX11_first_39 : decode cX11_first 39 = .ok (.getfield 54, 3) := by decide +kernel
theorem dX11_first_42 : decode cX11_first 42 = .ok (.aload_n 0, 1) := by decide +kernel
theorem dX11_first_43 : decode cX11_first 43 = .ok (.getfield 24, 3) := by decide +kernel
theorem dX11_first_46 : decode cX11_first 46 = .ok (.invokevirtual 244, 3) := by decide +kernel
theorem dX11_first_49 : decode cX11_first 49 = .ok (.goto 4, 3) := by decide +kernel
theorem dX11_first_52 : decode cX11_first 52 = .ok (.iload_n 2, 1) := by decide +kernel
theorem dX11_first_53 : decode cX11_first 53 = .ok (.ireturn, 1) := by decide +kernel
theorem dX11_first_54 : decode cX11_first 54 = .ok (.iinc 2 1, 3) := by decide +kernel
theorem dX11_first_57 : decode cX11_first 57 = .ok (.goto (-44), 3) := by decide +kernel
theorem dX11_first_60 : decode cX11_first 60 = .ok (.iconst (-1), 1) := by decide +kernel
theorem dX11_first_61 : decode cX11_first 61 = .ok (.ireturn, 1) := by decide +kernel
theorem dX11_plan_0 : decode cX11_plan 0 = .ok (.aload_n 0, 1) := by decide +kernel
theorem dX11_plan_1 : decode cX11_plan 1 = .ok (.iload_n 1, 1) := by decide +kernel
theorem dX11_plan_2 : decode cX11_plan 2 = .ok (.invokevirtual 119, 3) := by decide +kernel
theorem dX11_plan_5 : decode cX11_plan 5 = .ok (.aload_n 0, 1) := by decide +kernel
theorem dX11_plan_6 : decode cX11_plan 6 = .ok (.iload_n 2, 1) := by decide +kernel
theorem dX11_plan_7 : decode cX11_plan 7 = .ok (.iconst 1, 1) := by decide +kernel
theorem dX11_plan_8 : decode cX11_plan 8 = .ok (.bipush 40, 2) := by decide +kernel
theorem dX11_plan_10 : decode cX11_plan 10 = .ok (.invokevirtual 191, 3) := by decide +kernel
theorem dX11_plan_13 : decode cX11_plan 13 = .ok (.iload_n 3, 1) := by decide +kernel
theorem dX11_plan_14 : decode cX11_plan 14 = .ok (.iconst (-1), 1) := by decide +kernel
theorem dX11_plan_15 : decode cX11_plan 15 = .ok (.if_icmp .lt 8, 3) := by decide +kernel
theorem dX11_plan_18 : decode cX11_plan 18 = .ok (.iload_n 3, 1) := by decide +kernel
theorem dX11_plan_19 : decode cX11_plan 19 = .ok (.iload_n 2, 1) := by decide +kernel
theorem dX11_plan_20 : decode cX11_plan 20 = .ok (.if_icmp .lt 5, 3) := by decide +kernel
theorem dX11_plan_23 : decode cX11_plan 23 = .ok (.iconst (-1), 1) := by decide +kernel
theorem dX11_plan_24 : decode cX11_plan 24 = .ok (.ireturn, 1) := by decide +kernel
theorem dX11_plan_25 : decode cX11_plan 25 = .ok (.aload_n 0, 1) := by decide +kernel
theorem dX11_plan_26 : decode cX11_plan 26 = .ok (.getfield 20, 3) := by decide +kernel
theorem dX11_plan_29 : decode cX11_plan 29 = .ok (.iload_n 1, 1) := by decide +kernel
theorem dX11_plan_30 : decode cX11_plan 30 = .ok (.iload_n 2, 1) := by decide +kernel
theorem dX11_plan_31 : decode cX11_plan 31 = .ok (.invokestatic 247, 3) := by decide +kernel
theorem dX11_plan_34 : decode cX11_plan 34 = .ok (.istore 4, 2) := by decide +kernel
theorem dX11_plan_36 : decode cX11_plan 36 = .ok (.iload_n 3, 1) := by decide +kernel
theorem dX11_plan_37 : decode cX11_plan 37 = .ok (.iconst (-1), 1) := by decide +kernel
theorem dX11_plan_38 : decode cX11_plan 38 = .ok (.if_icmp .ne 8, 3) := by decide +kernel
theorem dX11_plan_41 : decode cX11_plan 41 = .ok (.iload 4, 2) := by decide +kernel
theorem dX11_plan_43 : decode cX11_plan 43 = .ok (.goto 14, 3) := by decide +kernel
theorem dX11_plan_46 : decode cX11_plan 46 = .ok (.aload_n 0, 1) := by decide +kernel
theorem dX11_plan_47 : decode cX11_plan 47 = .ok (.getfield 20, 3) := by decide +kernel
theorem dX11_plan_50 : decode cX11_plan 50 = .ok (.iload_n 1, 1) := by decide +kernel
theorem dX11_plan_51 : decode cX11_plan 51 = .ok (.iload 4, 2) := by decide +kernel
theorem dX11_plan_53 : decode cX11_plan 53 = .ok (.iload_n 3, 1) := by decide +kernel
theorem dX11_plan_54 : decode cX11_plan 54 = .ok (.invokestatic 251, 3) := by decide +kernel
theorem dX11_plan_57 : decode cX11_plan 57 = .ok (.ireturn, 1) := by decide +kernel
theorem dX11_cost_0 : decode cX11_cost 0 = .ok (.aload_n 0, 1) := by decide +kernel
theorem dX11_cost_1 : decode cX11_cost 1 = .ok (.iload_n 1, 1) := by decide +kernel
theorem dX11_cost_2 : decode cX11_cost 2 = .ok (.invokevirtual 119, 3) := by decide +kernel
theorem dX11_cost_5 : decode cX11_cost 5 = .ok (.aload_n 0, 1) := by decide +kernel
theorem dX11_cost_6 : decode cX11_cost 6 = .ok (.iload_n 2, 1) := by decide +kernel
theorem dX11_cost_7 : decode cX11_cost 7 = .ok (.iconst 0, 1) := by decide +kernel
theorem dX11_cost_8 : decode cX11_cost 8 = .ok (.bipush 60, 2) := by decide +kernel
theorem dX11_cost_10 : decode cX11_cost 10 = .ok (.invokevirtual 191, 3) := by decide +kernel
theorem dX11_cost_13 : decode cX11_cost 13 = .ok (.aload_n 0, 1) := by decide +kernel
theorem dX11_cost_14 : decode cX11_cost 14 = .ok (.getfield 20, 3) := by decide +kernel
theorem dX11_cost_17 : decode cX11_cost 17 = .ok (.iload_n 1, 1) := by decide +kernel
theorem dX11_cost_18 : decode cX11_cost 18 = .ok (.invokevirtual 131, 3) := by decide +kernel
theorem dX11_cost_21 : decode cX11_cost 21 = .ok (.ifCond .eq 15, 3) := by decide +kernel
theorem dX11_cost_24 : decode cX11_cost 24 = .ok (.aload_n 0, 1) := by decide +kernel
theorem dX11_cost_25 : decode cX11_cost 25 = .ok (.getfield 20, 3) := by decide +kernel
theorem dX11_cost_28 : decode cX11_cost 28 = .ok (.iload_n 1, 1) := by decide +kernel
theorem dX11_cost_29 : decode cX11_cost 29 = .ok (.iload_n 2, 1) := by decide +kernel
theorem dX11_cost_30 : decode cX11_cost 30 = .ok (.invokestatic 255, 3) := by decide +kernel
theorem dX11_cost_33 : decode cX11_cost 33 = .ok (.goto 4, 3) := by decide +kernel
theorem dX11_cost_36 : decode cX11_cost 36 = .ok (.iconst 0, 1) := by decide +kernel
theorem dX11_cost_37 : decode cX11_cost 37 = .ok (.ireturn, 1) := by decide +kernel
theorem dX11_netted_0 : decode cX11_netted 0 = .ok (.aload_n 0, 1) := by decide +kernel
theorem dX11_netted_1 : decode cX11_netted 1 = .ok (.getfield 61, 3) := by decide +kernel
theorem dX11_netted_4 : decode cX11_netted 4 = .ok (.aload_n 0, 1) := by decide +kernel
theorem dX11_netted_5 : decode cX11_netted 5 = .ok (.getfield 20, 3) := by decide +kernel
theorem dX11_netted_8 : decode cX11_netted 8 = .ok (.invokevirtual 258, 3) := by decide +kernel
theorem dX11_netted_11 : decode cX11_netted 11 = .ok (.ireturn, 1) := by decide +kernel
theorem dX11_ring_0 : decode cX11_ring 0 = .ok (.aload_n 0, 1) := by decide +kernel
theorem dX11_ring_1 : decode cX11_ring 1 = .ok (.iload_n 1, 1) := by decide +kernel
theorem dX11_ring_2 : decode cX11_ring 2 = .ok (.invokevirtual 119, 3) := by decide +kernel
theorem dX11_ring_5 : decode cX11_ring 5 = .ok (.aload_n 0, 1) := by decide +kernel
theorem dX11_ring_6 : decode cX11_ring 6 = .ok (.getfield 61, 3) := by decide +kernel
theorem dX11_ring_9 : decode cX11_ring 9 = .ok (.aload_n 0, 1) := by decide +kernel
theorem dX11_ring_10 : decode cX11_ring 10 = .ok (.getfield 20, 3) := by decide +kernel
theorem dX11_ring_13 : decode cX11_ring 13 = .ok (.iload_n 1, 1) := by decide +kernel
theorem dX11_ring_14 : decode cX11_ring 14 = .ok (.invokevirtual 261, 3) := by decide +kernel
theorem dX11_ring_17 : decode cX11_ring 17 = .ok (.ireturn, 1) := by decide +kernel
theorem dX11_run_0 : decode cX11_run 0 = .ok (.aload_n 0, 1) := by decide +kernel
theorem dX11_run_1 : decode cX11_run 1 = .ok (.iload_n 1, 1) := by decide +kernel
theorem dX11_run_2 : decode cX11_run 2 = .ok (.invokevirtual 119, 3) := by decide +kernel
theorem dX11_run_5 : decode cX11_run 5 = .ok (.aload_n 0, 1) := by decide +kernel
theorem dX11_run_6 : decode cX11_run 6 = .ok (.iload_n 1, 1) := by decide +kernel
theorem dX11_run_7 : decode cX11_run 7 = .ok (.invokevirtual 176, 3) := by decide +kernel
theorem dX11_run_10 : decode cX11_run 10 = .ok (.aload_n 0, 1) := by decide +kernel
theorem dX11_run_11 : decode cX11_run 11 = .ok (.getfield 20, 3) := by decide +kernel
theorem dX11_run_14 : decode cX11_run 14 = .ok (.iconst 1, 1) := by decide +kernel
theorem dX11_run_15 : decode cX11_run 15 = .ok (.iload_n 1, 1) := by decide +kernel
theorem dX11_run_16 : decode cX11_run 16 = .ok (.ishl, 1) := by decide +kernel
theorem dX11_run_17 : decode cX11_run 17 = .ok (.invokestatic 264, 3) := by decide +kernel
theorem dX11_run_20 : decode cX11_run 20 = .ok (.istore_n 3, 1) := by decide +kernel
theorem dX11_run_21 : decode cX11_run 21 = .ok (.iload_n 2, 1) := by decide +kernel
theorem dX11_run_22 : decode cX11_run 22 = .ok (.ifCond .eq 14, 3) := by decide +kernel
theorem dX11_run_25 : decode cX11_run 25 = .ok (.aload_n 0, 1) := by decide +kernel
theorem dX11_run_26 : decode cX11_run 26 = .ok (.getfield 20, 3) := by decide +kernel
theorem dX11_run_29 : decode cX11_run 29 = .ok (.iload_n 3, 1) := by decide +kernel
theorem dX11_run_30 : decode cX11_run 30 = .ok (.invokevirtual 269, 3) := by decide +kernel
theorem dX11_run_33 : decode cX11_run 33 = .ok (.goto 4, 3) := by decide +kernel
theorem dX11_run_36 : decode cX11_run 36 = .ok (.iload_n 3, 1) := by decide +kernel
theorem dX11_run_37 : decode cX11_run 37 = .ok (.ireturn, 1) := by decide +kernel
theorem dX11_spark_0 : decode cX11_spark 0 = .ok (.aload_n 0, 1) := by decide +kernel
theorem dX11_spark_1 : decode cX11_spark 1 = .ok (.getfield 20, 3) := by decide +kernel
theorem dX11_spark_4 : decode cX11_spark 4 = .ok (.invokestatic 272, 3) := by decide +kernel
theorem dX11_spark_7 : decode cX11_spark 7 = .ok (.ireturn, 1) := by decide +kernel
theorem dX11_reserve_0 : decode cX11_reserve 0 = .ok (.aload_n 0, 1) := by decide +kernel
theorem dX11_reserve_1 : decode cX11_reserve 1 = .ok (.getfield 20, 3) := by decide +kernel
theorem dX11_reserve_4 : decode cX11_reserve 4 = .ok (.invokestatic 275, 3) := by decide +kernel
theorem dX11_reserve_7 : decode cX11_reserve 7 = .ok (.ireturn, 1) := by decide +kernel
theorem dX11_feelings_0 : decode cX11_feelings 0 = .ok (.iconst 0, 1) := by decide +kernel
theorem dX11_feelings_1 : decode cX11_feelings 1 = .ok (.istore_n 1, 1) := by decide +kernel
theorem dX11_feelings_2 : decode cX11_feelings 2 = .ok (.iconst 0, 1) := by decide +kernel
theorem dX11_feelings_3 : decode cX11_feelings 3 = .ok (.istore_n 2, 1) := by decide +kernel
theorem dX11_feelings_4 : decode cX11_feelings 4 = .ok (.iload_n 2, 1) := by decide +kernel
theorem dX11_feelings_5 : decode cX11_feelings 5 = .ok (.aload_n 0, 1) := by decide +kernel
theorem dX11_feelings_6 : decode cX11_feelings 6 = .ok (.getfield 20, 3) := by decide +kernel
theorem dX11_feelings_9 : decode cX11_feelings 9 = .ok (.getfield 278, 3) := by decide +kernel
theorem dX11_feelings_12 : decode cX11_feelings 12 = .ok (.if_icmp .ge 35, 3) := by decide +kernel
theorem dX11_feelings_15 : decode cX11_feelings 15 = .ok (.aload_n 0, 1) := by decide +kernel
theorem dX11_feelings_16 : decode cX11_feelings 16 = .ok (.getfield 20, 3) := by decide +kernel
theorem dX11_feelings_19 : decode cX11_feelings 19 = .ok (.iload_n 2, 1) := by decide +kernel
theorem dX11_feelings_20 : decode cX11_feelings 20 = .ok (.invokevirtual 131, 3) := by decide +kernel
theorem dX11_feelings_23 : decode cX11_feelings 23 = .ok (.ifCond .eq 18, 3) := by decide +kernel
theorem dX11_feelings_26 : decode cX11_feelings 26 = .ok (.aload_n 0, 1) := by decide +kernel
theorem dX11_feelings_27 : decode cX11_feelings 27 = .ok (.getfield 20, 3) := by decide +kernel
theorem dX11_feelings_30 : decode cX11_feelings 30 = .ok (.getfield 125, 3) := by decide +kernel
theorem dX11_feelings_33 : decode cX11_feelings 33 = .ok (.iload_n 2, 1) := by decide +kernel
theorem dX11_feelings_34 : decode cX11_feelings 34 = .ok (.iaload, 1) := by decide +kernel
theorem dX11_feelings_35 : decode cX11_feelings 35 = .ok (.ifCond .le 6, 3) := by decide +kernel
theorem dX11_feelings_38 : decode cX11_feelings 38 = .ok (.iinc 1 1, 3) := by decide +kernel
theorem dX11_feelings_41 : decode cX11_feelings 41 = .ok (.iinc 2 1, 3) := by decide +kernel
theorem dX11_feelings_44 : decode cX11_feelings 44 = .ok (.goto (-40), 3) := by decide +kernel
theorem dX11_feelings_47 : decode cX11_feelings 47 = .ok (.iconst 0, 1) := by decide +kernel
theorem dX11_feelings_48 : decode cX11_feelings 48 = .ok (.istore_n 2, 1) := by decide +kernel
theorem dX11_feelings_49 : decode cX11_feelings 49 = .ok (.iconst 1, 1) := by decide +kernel
theorem dX11_feelings_50 : decode cX11_feelings 50 = .ok (.istore_n 3, 1) := by decide +kernel
theorem dX11_feelings_51 : decode cX11_feelings 51 = .ok (.iload_n 3, 1) := by decide +kernel
theorem dX11_feelings_52 : decode cX11_feelings 52 = .ok (.iload_n 1, 1) := by decide +kernel
theorem dX11_feelings_53 : decode cX11_feelings 53 = .ok (.if_icmp .ge 13, 3) := by decide +kernel
theorem dX11_feelings_56 : decode cX11_feelings 56 = .ok (.iinc 2 1, 3) := by decide +kernel
theorem dX11_feelings_59 : decode cX11_feelings 59 = .ok (.iload_n 3, 1) := by decide +kernel
theorem dX11_feelings_60 : decode cX11_feelings 60 = .ok (.iconst 2, 1) := by decide +kernel
theorem dX11_feelings_61 : decode cX11_feelings 61 = .ok (.imul, 1) := by decide +kernel
theorem dX11_feelings_62 : decode cX11_feelings 62 = .ok (.istore_n 3, 1) := by decide +kernel
theorem dX11_feelings_63 : decode cX11_feelings 63 = .ok (.goto (-12), 3) := by decide +kernel
theorem dX11_feelings_66 : decode cX11_feelings 66 = .ok (.iload_n 2, 1) := by decide +kernel
theorem dX11_feelings_67 : decode cX11_feelings 67 = .ok (.ireturn, 1) := by decide +kernel
theorem dX11_saint_0 : decode cX11_saint 0 = .ok (.aload_n 0, 1) := by decide +kernel
theorem dX11_saint_1 : decode cX11_saint 1 = .ok (.iload_n 2, 1) := by decide +kernel
theorem dX11_saint_2 : decode cX11_saint 2 = .ok (.invokevirtual 162, 3) := by decide +kernel
theorem dX11_saint_5 : decode cX11_saint 5 = .ok (.iload_n 3, 1) := by decide +kernel
theorem dX11_saint_6 : decode cX11_saint 6 = .ok (.ifCond .eq 15, 3) := by decide +kernel
theorem dX11_saint_9 : decode cX11_saint 9 = .ok (.aload_n 0, 1) := by decide +kernel
theorem dX11_saint_10 : decode cX11_saint 10 = .ok (.getfield 20, 3) := by decide +kernel
theorem dX11_saint_13 : decode cX11_saint 13 = .ok (.iload_n 1, 1) := by decide +kernel
theorem dX11_saint_14 : decode cX11_saint 14 = .ok (.iload_n 2, 1) := by decide +kernel
theorem dX11_saint_15 : decode cX11_saint 15 = .ok (.invokestatic 281, 3) := by decide +kernel
theorem dX11_saint_18 : decode cX11_saint 18 = .ok (.goto 12, 3) := by decide +kernel
theorem dX11_saint_21 : decode cX11_saint 21 = .ok (.aload_n 0, 1) := by decide +kernel
theorem dX11_saint_22 : decode cX11_saint 22 = .ok (.getfield 20, 3) := by decide +kernel
theorem dX11_saint_25 : decode cX11_saint 25 = .ok (.iload_n 1, 1) := by decide +kernel
theorem dX11_saint_26 : decode cX11_saint 26 = .ok (.iload_n 2, 1) := by decide +kernel
theorem dX11_saint_27 : decode cX11_saint 27 = .ok (.invokestatic 284, 3) := by decide +kernel
theorem dX11_saint_30 : decode cX11_saint 30 = .ok (.ireturn, 1) := by decide +kernel
theorem dX11_share_0 : decode cX11_share 0 = .ok (.aload_n 0, 1) := by decide +kernel
theorem dX11_share_1 : decode cX11_share 1 = .ok (.iload_n 1, 1) := by decide +kernel
theorem dX11_share_2 : decode cX11_share 2 = .ok (.iload_n 2, 1) := by decide +kernel
theorem dX11_share_3 : decode cX11_share 3 = .ok (.invokevirtual 169, 3) := by decide +kernel
theorem dX11_share_6 : decode cX11_share 6 = .ok (.aload_n 0, 1) := by decide +kernel
theorem dX11_share_7 : decode cX11_share 7 = .ok (.iload_n 1, 1) := by decide +kernel
theorem dX11_share_8 : decode cX11_share 8 = .ok (.invokevirtual 176, 3) := by decide +kernel
theorem dX11_share_11 : decode cX11_share 11 = .ok (.aload_n 0, 1) := by decide +kernel
theorem dX11_share_12 : decode cX11_share 12 = .ok (.iload_n 2, 1) := by decide +kernel
theorem dX11_share_13 : decode cX11_share 13 = .ok (.invokevirtual 176, 3) := by decide +kernel
theorem dX11_share_16 : decode cX11_share 16 = .ok (.iconst 1, 1) := by decide +kernel
theorem dX11_share_17 : decode cX11_share 17 = .ok (.iload_n 1, 1) := by decide +kernel
theorem dX11_share_18 : decode cX11_share 18 = .ok (.ishl, 1) := by decide +kernel
theorem dX11_share_19 : decode cX11_share 19 = .ok (.iconst 1, 1) := by decide +kernel
theorem dX11_share_20 : decode cX11_share 20 = .ok (.iload_n 2, 1) := by decide +kernel
theorem dX11_share_21 : decode cX11_share 21 = .ok (.ishl, 1) := by decide +kernel
theorem dX11_share_22 : decode cX11_share 22 = .ok (.ior, 1) := by decide +kernel
theorem dX11_share_23 : decode cX11_share 23 = .ok (.istore_n 3, 1) := by decide +kernel
theorem dX11_share_24 : decode cX11_share 24 = .ok (.aload_n 0, 1) := by decide +kernel
theorem dX11_share_25 : decode cX11_share 25 = .ok (.getfield 20, 3) := by decide +kernel
theorem dX11_share_28 : decode cX11_share 28 = .ok (.iload_n 3, 1) := by decide +kernel
theorem dX11_share_29 : decode cX11_share 29 = .ok (.invokevirtual 269, 3) := by decide +kernel
theorem dX11_share_32 : decode cX11_share 32 = .ok (.aload_n 0, 1) := by decide +kernel
theorem dX11_share_33 : decode cX11_share 33 = .ok (.getfield 20, 3) := by decide +kernel
theorem dX11_share_36 : decode cX11_share 36 = .ok (.iload_n 1, 1) := by decide +kernel
theorem dX11_share_37 : decode cX11_share 37 = .ok (.iload_n 2, 1) := by decide +kernel
theorem dX11_share_38 : decode cX11_share 38 = .ok (.aload_n 0, 1) := by decide +kernel
theorem dX11_share_39 : decode cX11_share 39 = .ok (.getfield 20, 3) := by decide +kernel
theorem dX11_share_42 : decode cX11_share 42 = .ok (.getfield 230, 3) := by decide +kernel
theorem dX11_share_45 : decode cX11_share 45 = .ok (.invokestatic 287, 3) := by decide +kernel
theorem dX11_share_48 : decode cX11_share 48 = .ok (.if_icmp .gt 7, 3) := by decide +kernel
theorem dX11_share_51 : decode cX11_share 51 = .ok (.iconst 1, 1) := by decide +kernel
theorem dX11_share_52 : decode cX11_share 52 = .ok (.goto 4, 3) := by decide +kernel
theorem dX11_share_55 : decode cX11_share 55 = .ok (.iconst 0, 1) := by decide +kernel
theorem dX11_share_56 : decode cX11_share 56 = .ok (.ireturn, 1) := by decide +kernel
theorem dX11_shares_0 : decode cX11_shares 0 = .ok (.aload_n 0, 1) := by decide +kernel
theorem dX11_shares_1 : decode cX11_shares 1 = .ok (.iload_n 1, 1) := by decide +kernel
theorem dX11_shares_2 : decode cX11_shares 2 = .ok (.iload_n 2, 1) := by decide +kernel
theorem dX11_shares_3 : decode cX11_shares 3 = .ok (.invokevirtual 169, 3) := by decide +kernel
theorem dX11_shares_6 : decode cX11_shares 6 = .ok (.aload_n 0, 1) := by decide +kernel
theorem dX11_shares_7 : decode cX11_shares 7 = .ok (.iload_n 1, 1) := by decide +kernel
theorem dX11_shares_8 : decode cX11_shares 8 = .ok (.invokevirtual 176, 3) := by decide +kernel
theorem dX11_shares_11 : decode cX11_shares 11 = .ok (.aload_n 0, 1) := by decide +kernel
theorem dX11_shares_12 : decode cX11_shares 12 = .ok (.iload_n 2, 1) := by decide +kernel
theorem dX11_shares_13 : decode cX11_shares 13 = .ok (.invokevirtual 176, 3) := by decide +kernel
theorem dX11_shares_16 : decode cX11_shares 16 = .ok (.aload_n 0, 1) := by decide +kernel
theorem dX11_shares_17 : decode cX11_shares 17 = .ok (.getfield 20, 3) := by decide +kernel
theorem dX11_shares_20 : decode cX11_shares 20 = .ok (.iload_n 1, 1) := by decide +kernel
theorem dX11_shares_21 : decode cX11_shares 21 = .ok (.iload_n 2, 1) := by decide +kernel
theorem dX11_shares_22 : decode cX11_shares 22 = .ok (.invokestatic 290, 3) := by decide +kernel
theorem dX11_shares_25 : decode cX11_shares 25 = .ok (.ireturn, 1) := by decide +kernel
theorem dX11_could_0 : decode cX11_could 0 = .ok (.aload_n 0, 1) := by decide +kernel
theorem dX11_could_1 : decode cX11_could 1 = .ok (.iload_n 1, 1) := by decide +kernel
theorem dX11_could_2 : decode cX11_could 2 = .ok (.invokevirtual 119, 3) := by decide +kernel
theorem dX11_could_5 : decode cX11_could 5 = .ok (.aload_n 0, 1) := by decide +kernel
theorem dX11_could_6 : decode cX11_could 6 = .ok (.getfield 20, 3) := by decide +kernel
theorem dX11_could_9 : decode cX11_could 9 = .ok (.aload_n 0, 1) := by decide +kernel
theorem dX11_could_10 : decode cX11_could 10 = .ok (.getfield 20, 3) := by decide +kernel
theorem dX11_could_13 : decode cX11_could 13 = .ok (.getfield 125, 3) := by decide +kernel
theorem dX11_could_16 : decode cX11_could 16 = .ok (.iload_n 1, 1) := by decide +kernel
theorem dX11_could_17 : decode cX11_could 17 = .ok (.iaload, 1) := by decide +kernel
theorem dX11_could_18 : decode cX11_could 18 = .ok (.invokestatic 293, 3) := by decide +kernel
theorem dX11_could_21 : decode cX11_could 21 = .ok (.ireturn, 1) := by decide +kernel
theorem dX11_fewest_0 : decode cX11_fewest 0 = .ok (.aload_n 0, 1) := by decide +kernel
theorem dX11_fewest_1 : decode cX11_fewest 1 = .ok (.getfield 20, 3) := by decide +kernel
theorem dX11_fewest_4 : decode cX11_fewest 4 = .ok (.invokestatic 296, 3) := by decide +kernel
theorem dX11_fewest_7 : decode cX11_fewest 7 = .ok (.ireturn, 1) := by decide +kernel
theorem dX11_quiet_0 : decode cX11_quiet 0 = .ok (.aload_n 0, 1) := by decide +kernel
theorem dX11_quiet_1 : decode cX11_quiet 1 = .ok (.getfield 20, 3) := by decide +kernel
theorem dX11_quiet_4 : decode cX11_quiet 4 = .ok (.invokestatic 299, 3) := by decide +kernel
theorem dX11_quiet_7 : decode cX11_quiet 7 = .ok (.istore_n 2, 1) := by decide +kernel
theorem dX11_quiet_8 : decode cX11_quiet 8 = .ok (.iload_n 1, 1) := by decide +kernel
theorem dX11_quiet_9 : decode cX11_quiet 9 = .ok (.ifCond .eq 21, 3) := by decide +kernel
theorem dX11_quiet_12 : decode cX11_quiet 12 = .ok (.aload_n 0, 1) := by decide +kernel
theorem dX11_quiet_13 : decode cX11_quiet 13 = .ok (.getfield 20, 3) := by decide +kernel
theorem dX11_quiet_16 : decode cX11_quiet 16 = .ok (.aload_n 0, 1) := by decide +kernel
theorem dX11_quiet_17 : decode cX11_quiet 17 = .ok (.getfield 20, 3) := by decide +kernel
theorem dX11_quiet_20 : decode cX11_quiet 20 = .ok (.getfield 219, 3) := by decide +kernel
theorem dX11_quiet_23 : decode cX11_quiet 23 = .ok (.iload_n 2, 1) := by decide +kernel
theorem dX11_quiet_24 : decode cX11_quiet 24 = .ok (.invokestatic 302, 3) := by decide +kernel
theorem dX11_quiet_27 : decode cX11_quiet 27 = .ok (.goto 4, 3) := by decide +kernel
theorem dX11_quiet_30 : decode cX11_quiet 30 = .ok (.iload_n 2, 1) := by decide +kernel
theorem dX11_quiet_31 : decode cX11_quiet 31 = .ok (.ireturn, 1) := by decide +kernel
theorem dX11_peak_0 : decode cX11_peak 0 = .ok (.aload_n 0, 1) := by decide +kernel
theorem dX11_peak_1 : decode cX11_peak 1 = .ok (.iload_n 1, 1) := by decide +kernel
theorem dX11_peak_2 : decode cX11_peak 2 = .ok (.invokevirtual 119, 3) := by decide +kernel
theorem dX11_peak_5 : decode cX11_peak 5 = .ok (.aload_n 0, 1) := by decide +kernel
theorem dX11_peak_6 : decode cX11_peak 6 = .ok (.iload_n 2, 1) := by decide +kernel
theorem dX11_peak_7 : decode cX11_peak 7 = .ok (.iconst 1, 1) := by decide +kernel
theorem dX11_peak_8 : decode cX11_peak 8 = .ok (.bipush 60, 2) := by decide +kernel
theorem dX11_peak_10 : decode cX11_peak 10 = .ok (.invokevirtual 191, 3) := by decide +kernel
theorem dX11_peak_13 : decode cX11_peak 13 = .ok (.aload_n 0, 1) := by decide +kernel
theorem dX11_peak_14 : decode cX11_peak 14 = .ok (.iload_n 1, 1) := by decide +kernel
theorem dX11_peak_15 : decode cX11_peak 15 = .ok (.invokevirtual 176, 3) := by decide +kernel
theorem dX11_peak_18 : decode cX11_peak 18 = .ok (.aload_n 0, 1) := by decide +kernel
theorem dX11_peak_19 : decode cX11_peak 19 = .ok (.getfield 24, 3) := by decide +kernel
theorem dX11_peak_22 : decode cX11_peak 22 = .ok (.aload_n 0, 1) := by decide +kernel
theorem dX11_peak_23 : decode cX11_peak 23 = .ok (.getfield 20, 3) := by decide +kernel
theorem dX11_peak_26 : decode cX11_peak 26 = .ok (.invokevirtual 76, 3) := by decide +kernel
theorem dX11_peak_29 : decode cX11_peak 29 = .ok (.iconst (-1), 1) := by decide +kernel
theorem dX11_peak_30 : decode cX11_peak 30 = .ok (.istore 4, 2) := by decide +kernel
theorem dX11_peak_32 : decode cX11_peak 32 = .ok (.iconst 0, 1) := by decide +kernel
theorem dX11_peak_33 : decode cX11_peak 33 = .ok (.istore 5, 2) := by decide +kernel
theorem dX11_peak_35 : decode cX11_peak 35 = .ok (.iconst 0, 1) := by decide +kernel
theorem dX11_peak_36 : decode cX11_peak 36 = .ok (.istore 6, 2) := by decide +kernel
theorem dX11_peak_38 : decode cX11_peak 38 = .ok (.iload 6, 2) := by decide +kernel
theorem dX11_peak_40 : decode cX11_peak 40 = .ok (.iload_n 2, 1) := by decide +kernel
theorem dX11_peak_41 : decode cX11_peak 41 = .ok (.if_icmp .ge 51, 3) := by decide +kernel
theorem dX11_peak_44 : decode cX11_peak 44 = .ok (.aload_n 0, 1) := by decide +kernel
theorem dX11_peak_45 : decode cX11_peak 45 = .ok (.getfield 54, 3) := by decide +kernel
theorem dX11_peak_48 : decode cX11_peak 48 = .ok (.aload_n 0, 1) := by decide +kernel
theorem dX11_peak_49 : decode cX11_peak 49 = .ok (.getfield 24, 3) := by decide +kernel
theorem dX11_peak_52 : decode cX11_peak 52 = .ok (.iconst 0, 1) := by decide +kernel
theorem dX11_peak_53 : decode cX11_peak 53 = .ok (.invokevirtual 233, 3) := by decide +kernel
theorem dX11_peak_56 : decode cX11_peak 56 = .ok (.pop, 1) := by decide +kernel
theorem dX11_peak_57 : decode cX11_peak 57 = .ok (.aload_n 0, 1) := by decide +kernel
theorem dX11_peak_58 : decode cX11_peak 58 = .ok (.getfield 54, 3) := by decide +kernel
theorem dX11_peak_61 : decode cX11_peak 61 = .ok (.getfield 188, 3) := by decide +kernel
theorem dX11_peak_64 : decode cX11_peak 64 = .ok (.iload_n 1, 1) := by decide +kernel
theorem dX11_peak_65 : decode cX11_peak 65 = .ok (.iaload, 1) := by decide +kernel
theorem dX11_peak_66 : decode cX11_peak 66 = .ok (.iload 4, 2) := by decide +kernel
theorem dX11_peak_68 : decode cX11_peak 68 = .ok (.if_icmp .le 18, 3) := by decide +kernel
theorem dX11_peak_71 : decode cX11_peak 71 = .ok (.aload_n 0, 1) := by decide +kernel
theorem dX11_peak_72 : decode cX11_peak 72 = .ok (.getfield 54, 3) := by decide +kernel
theorem dX11_peak_75 : decode cX11_peak 75 = .ok (.getfield 188, 3) := by decide +kernel
theorem dX11_peak_78 : decode cX11_peak 78 = .ok (.iload_n 1, 1) := by decide +kernel
theorem dX11_peak_79 : decode cX11_peak 79 = .ok (.iaload, 1) := by decide +kernel
theorem dX11_peak_80 : decode cX11_peak 80 = .ok (.istore 4, 2) := by decide +kernel
theorem dX11_peak_82 : decode cX11_peak 82 = .ok (.iload 6, 2) := by decide +kernel
theorem dX11_peak_84 : decode cX11_peak 84 = .ok (.istore 5, 2) := by decide +kernel
theorem dX11_peak_86 : decode cX11_peak 86 = .ok (.iinc 6 1, 3) := by decide +kernel
theorem dX11_peak_89 : decode cX11_peak 89 = .ok (.goto (-51), 3) := by decide +kernel
theorem dX11_peak_92 : decode cX11_peak 92 = .ok (.iload_n 3, 1) := by decide +kernel
theorem dX11_peak_93 : decode cX11_peak 93 = .ok (.ifCond .eq 8, 3) := by decide +kernel
theorem dX11_peak_96 : decode cX11_peak 96 = .ok (.iload 5, 2) := by decide +kernel
theorem dX11_peak_98 : decode cX11_peak 98 = .ok (.goto 5, 3) := by decide +kernel
theorem dX11_peak_101 : decode cX11_peak 101 = .ok (.iload 4, 2) := by decide +kernel
theorem dX11_peak_103 : decode cX11_peak 103 = .ok (.ireturn, 1) := by decide +kernel
theorem dX11_needed_0 : decode cX11_needed 0 = .ok (.aload_n 0, 1) := by decide +kernel
theorem dX11_needed_1 : decode cX11_needed 1 = .ok (.iload_n 1, 1) := by decide +kernel
theorem dX11_needed_2 : decode cX11_needed 2 = .ok (.iconst 0, 1) := by decide +kernel
theorem dX11_needed_3 : decode cX11_needed 3 = .ok (.bipush 60, 2) := by decide +kernel
theorem dX11_needed_5 : decode cX11_needed 5 = .ok (.invokevirtual 191, 3) := by decide +kernel
theorem dX11_needed_8 : decode cX11_needed 8 = .ok (.aload_n 0, 1) := by decide +kernel
theorem dX11_needed_9 : decode cX11_needed 9 = .ok (.getfield 24, 3) := by decide +kernel
theorem dX11_needed_12 : decode cX11_needed 12 = .ok (.aload_n 0, 1) := by decide +kernel
theorem dX11_needed_13 : decode cX11_needed 13 = .ok (.getfield 20, 3) := by decide +kernel
theorem dX11_needed_16 : decode cX11_needed 16 = .ok (.invokevirtual 76, 3) := by decide +kernel
theorem dX11_needed_19 : decode cX11_needed 19 = .ok (.aload_n 0, 1) := by decide +kernel
theorem dX11_needed_20 : decode cX11_needed 20 = .ok (.getfield 24, 3) := by decide +kernel
theorem dX11_needed_23 : decode cX11_needed 23 = .ok (.ldc_w 305, 3) := by decide +kernel
theorem dX11_needed_26 : decode cX11_needed 26 = .ok (.putfield 306, 3) := by decide +kernel
theorem dX11_needed_29 : decode cX11_needed 29 = .ok (.iconst 0, 1) := by decide +kernel
theorem dX11_needed_30 : decode cX11_needed 30 = .ok (.istore_n 2, 1) := by decide +kernel
theorem dX11_needed_31 : decode cX11_needed 31 = .ok (.iconst 0, 1) := by decide +kernel
theorem dX11_needed_32 : decode cX11_needed 32 = .ok (.istore_n 3, 1) := by decide +kernel
theorem dX11_needed_33 : decode cX11_needed 33 = .ok (.iload_n 3, 1) := by decide +kernel
theorem dX11_needed_34 : decode cX11_needed 34 = .ok (.iload_n 1, 1) := by decide +kernel
theorem dX11_needed_35 : decode cX11_needed 35 = .ok (.if_icmp .ge 41, 3) := by decide +kernel
theorem dX11_needed_38 : decode cX11_needed 38 = .ok (.aload_n 0, 1) := by decide +kernel
theorem dX11_needed_39 : decode cX11_needed 39 = .ok (.getfield 54, 3) := by decide +kernel
theorem dX11_needed_42 : decode cX11_needed 42 = .ok (.aload_n 0, 1) := by decide +kernel
theorem dX11_needed_43 : decode cX11_needed 43 = .ok (.getfield 24, 3) := by decide +kernel
theorem dX11_needed_46 : decode cX11_needed 46 = .ok (.iconst 0, 1) := by decide +kernel
theorem dX11_needed_47 : decode cX11_needed 47 = .ok (.invokevirtual 233, 3) := by decide +kernel
theorem dX11_needed_50 : decode cX11_needed 50 = .ok (.pop, 1) := by decide +kernel
theorem dX11_needed_51 : decode cX11_needed 51 = .ok (.iload_n 2, 1) := by decide +kernel
theorem dX11_needed_52 : decode cX11_needed 52 = .ok (.aload_n 0, 1) := by decide +kernel
theorem dX11_needed_53 : decode cX11_needed 53 = .ok (.getfield 24, 3) := by decide +kernel
theorem dX11_needed_56 : decode cX11_needed 56 = .ok (.aload_n 0, 1) := by decide +kernel
theorem dX11_needed_57 : decode cX11_needed 57 = .ok (.getfield 24, 3) := by decide +kernel
theorem dX11_needed_60 : decode cX11_needed 60 = .ok (.invokevirtual 222, 3) := by decide +kernel
theorem dX11_needed_63 : decode cX11_needed 63 = .ok (.invokevirtual 269, 3) := by decide +kernel
theorem dX11_needed_66 : decode cX11_needed 66 = .ok (.invokestatic 207, 3) := by decide +kernel
theorem dX11_needed_69 : decode cX11_needed 69 = .ok (.istore_n 2, 1) := by decide +kernel
theorem dX11_needed_70 : decode cX11_needed 70 = .ok (.iinc 3 1, 3) := by decide +kernel
theorem dX11_needed_73 : decode cX11_needed 73 = .ok (.goto (-40), 3) := by decide +kernel
theorem dX11_needed_76 : decode cX11_needed 76 = .ok (.iload_n 2, 1) := by decide +kernel
theorem dX11_needed_77 : decode cX11_needed 77 = .ok (.ireturn, 1) := by decide +kernel
theorem dX11_parted_0 : decode cX11_parted 0 = .ok (.aload_n 0, 1) := by decide +kernel
theorem dX11_parted_1 : decode cX11_parted 1 = .ok (.getfield 20, 3) := by decide +kernel
theorem dX11_parted_4 : decode cX11_parted 4 = .ok (.invokestatic 309, 3) := by decide +kernel
theorem dX11_parted_7 : decode cX11_parted 7 = .ok (.istore_n 2, 1) := by decide +kernel
theorem dX11_parted_8 : decode cX11_parted 8 = .ok (.iload_n 1, 1) := by decide +kernel
theorem dX11_parted_9 : decode cX11_parted 9 = .ok (.ifCond .eq 7, 3) := by decide +kernel
theorem dX11_parted_12 : decode cX11_parted 12 = .ok (.iload_n 2, 1) := by decide +kernel
theorem dX11_parted_13 : decode cX11_parted 13 = .ok (.goto 11, 3) := by decide +kernel
theorem dX11_parted_16 : decode cX11_parted 16 = .ok (.aload_n 0, 1) := by decide +kernel
theorem dX11_parted_17 : decode cX11_parted 17 = .ok (.getfield 20, 3) := by decide +kernel
theorem dX11_parted_20 : decode cX11_parted 20 = .ok (.iload_n 2, 1) := by decide +kernel
theorem dX11_parted_21 : decode cX11_parted 21 = .ok (.invokestatic 312, 3) := by decide +kernel
theorem dX11_parted_24 : decode cX11_parted 24 = .ok (.ireturn, 1) := by decide +kernel
theorem dX11_rank_0 : decode cX11_rank 0 = .ok (.aload_n 0, 1) := by decide +kernel
theorem dX11_rank_1 : decode cX11_rank 1 = .ok (.iload_n 1, 1) := by decide +kernel
theorem dX11_rank_2 : decode cX11_rank 2 = .ok (.invokevirtual 119, 3) := by decide +kernel
theorem dX11_rank_5 : decode cX11_rank 5 = .ok (.aload_n 0, 1) := by decide +kernel
theorem dX11_rank_6 : decode cX11_rank 6 = .ok (.iload_n 1, 1) := by decide +kernel
theorem dX11_rank_7 : decode cX11_rank 7 = .ok (.invokevirtual 176, 3) := by decide +kernel
theorem dX11_rank_10 : decode cX11_rank 10 = .ok (.aload_n 0, 1) := by decide +kernel
theorem dX11_rank_11 : decode cX11_rank 11 = .ok (.iconst 1, 1) := by decide +kernel
theorem dX11_rank_12 : decode cX11_rank 12 = .ok (.invokevirtual 179, 3) := by decide +kernel
theorem dX11_rank_15 : decode cX11_rank 15 = .ok (.iconst 0, 1) := by decide +kernel
theorem dX11_rank_16 : decode cX11_rank 16 = .ok (.istore_n 2, 1) := by decide +kernel
theorem dX11_rank_17 : decode cX11_rank 17 = .ok (.iconst 0, 1) := by decide +kernel
theorem dX11_rank_18 : decode cX11_rank 18 = .ok (.istore_n 3, 1) := by decide +kernel
theorem dX11_rank_19 : decode cX11_rank 19 = .ok (.iload_n 3, 1) := by decide +kernel
theorem dX11_rank_20 : decode cX11_rank 20 = .ok (.aload_n 0, 1) := by decide +kernel
theorem dX11_rank_21 : decode cX11_rank 21 = .ok (.getfield 20, 3) := by decide +kernel
theorem dX11_rank_24 : decode cX11_rank 24 = .ok (.getfield 278, 3) := by decide +kernel
theorem dX11_rank_27 : decode cX11_rank 27 = .ok (.if_icmp .ge 44, 3) := by decide +kernel
theorem dX11_rank_30 : decode cX11_rank 30 = .ok (.aload_n 0, 1) := by decide +kernel
theorem dX11_rank_31 : decode cX11_rank 31 = .ok (.getfield 20, 3) := by decide +kernel
theorem dX11_rank_34 : decode cX11_rank 34 = .ok (.iload_n 3, 1) := by decide +kernel
theorem dX11_rank_35 : decode cX11_rank 35 = .ok (.invokevirtual 131, 3) := by decide +kernel
theorem dX11_rank_38 : decode cX11_rank 38 = .ok (.ifCond .eq 27, 3) := by decide +kernel
theorem dX11_rank_41 : decode cX11_rank 41 = .ok (.aload_n 0, 1) := by decide +kernel
theorem dX11_rank_42 : decode cX11_rank 42 = .ok (.getfield 54, 3) := by decide +kernel
theorem dX11_rank_45 : decode cX11_rank 45 = .ok (.getfield 188, 3) := by decide +kernel
theorem dX11_rank_48 : decode cX11_rank 48 = .ok (.iload_n 3, 1) := by decide +kernel
theorem dX11_rank_49 : decode cX11_rank 49 = .ok (.iaload, 1) := by decide +kernel
theorem dX11_rank_50 : decode cX11_rank 50 = .ok (.aload_n 0, 1) := by decide +kernel
theorem dX11_rank_51 : decode cX11_rank 51 = .ok (.getfield 54, 3) := by decide +kernel
theorem dX11_rank_54 : decode cX11_rank 54 = .ok (.getfield 188, 3) := by decide +kernel
theorem dX11_rank_57 : decode cX11_rank 57 = .ok (.iload_n 1, 1) := by decide +kernel
theorem dX11_rank_58 : decode cX11_rank 58 = .ok (.iaload, 1) := by decide +kernel
theorem dX11_rank_59 : decode cX11_rank 59 = .ok (.if_icmp .le 6, 3) := by decide +kernel
theorem dX11_rank_62 : decode cX11_rank 62 = .ok (.iinc 2 1, 3) := by decide +kernel
theorem dX11_rank_65 : decode cX11_rank 65 = .ok (.iinc 3 1, 3) := by decide +kernel
theorem dX11_rank_68 : decode cX11_rank 68 = .ok (.goto (-49), 3) := by decide +kernel
theorem dX11_rank_71 : decode cX11_rank 71 = .ok (.iload_n 2, 1) := by decide +kernel
theorem dX11_rank_72 : decode cX11_rank 72 = .ok (.ireturn, 1) := by decide +kernel
theorem dX11_strike_0 : decode cX11_strike 0 = .ok (.aload_n 0, 1) := by decide +kernel
theorem dX11_strike_1 : decode cX11_strike 1 = .ok (.getfield 61, 3) := by decide +kernel
theorem dX11_strike_4 : decode cX11_strike 4 = .ok (.aload_n 0, 1) := by decide +kernel
theorem dX11_strike_5 : decode cX11_strike 5 = .ok (.getfield 20, 3) := by decide +kernel
theorem dX11_strike_8 : decode cX11_strike 8 = .ok (.invokevirtual 315, 3) := by decide +kernel
theorem dX11_strike_11 : decode cX11_strike 11 = .ok (.ireturn, 1) := by decide +kernel
theorem dX11_trial_0 : decode cX11_trial 0 = .ok (.aload_n 0, 1) := by decide +kernel
theorem dX11_trial_1 : decode cX11_trial 1 = .ok (.iload_n 1, 1) := by decide +kernel
theorem dX11_trial_2 : decode cX11_trial 2 = .ok (.iconst 0, 1) := by decide +kernel
theorem dX11_trial_3 : decode cX11_trial 3 = .ok (.bipush 40, 2) := by decide +kernel
theorem dX11_trial_5 : decode cX11_trial 5 = .ok (.invokevirtual 191, 3) := by decide +kernel
theorem dX11_trial_8 : decode cX11_trial 8 = .ok (.aload_n 0, 1) := by decide +kernel
theorem dX11_trial_9 : decode cX11_trial 9 = .ok (.iload_n 1, 1) := by decide +kernel
theorem dX11_trial_10 : decode cX11_trial 10 = .ok (.aload_n 0, 1) := by decide +kernel
theorem dX11_trial_11 : decode cX11_trial 11 = .ok (.getfield 20, 3) := by decide +kernel
theorem dX11_trial_14 : decode cX11_trial 14 = .ok (.getfield 318, 3) := by decide +kernel
theorem dX11_trial_17 : decode cX11_trial 17 = .ok (.invokevirtual 321, 3) := by decide +kernel
theorem dX11_trial_20 : decode cX11_trial 20 = .ok (.istore_n 3, 1) := by decide +kernel
theorem dX11_trial_21 : decode cX11_trial 21 = .ok (.iload_n 2, 1) := by decide +kernel
theorem dX11_trial_22 : decode cX11_trial 22 = .ok (.ifCond .eq 20, 3) := by decide +kernel
theorem dX11_trial_25 : decode cX11_trial 25 = .ok (.aload_n 0, 1) := by decide +kernel
theorem dX11_trial_26 : decode cX11_trial 26 = .ok (.getfield 24, 3) := by decide +kernel
theorem dX11_trial_29 : decode cX11_trial 29 = .ok (.aload_n 0, 1) := by decide +kernel
theorem dX11_trial_30 : decode cX11_trial 30 = .ok (.getfield 24, 3) := by decide +kernel
theorem dX11_trial_33 : decode cX11_trial 33 = .ok (.invokevirtual 222, 3) := by decide +kernel
theorem dX11_trial_36 : decode cX11_trial 36 = .ok (.invokevirtual 269, 3) := by decide +kernel
theorem dX11_trial_39 : decode cX11_trial 39 = .ok (.goto 4, 3) := by decide +kernel
theorem dX11_trial_42 : decode cX11_trial 42 = .ok (.iload_n 3, 1) := by decide +kernel
theorem dX11_trial_43 : decode cX11_trial 43 = .ok (.ireturn, 1) := by decide +kernel
theorem dX11_span_0 : decode cX11_span 0 = .ok (.aload_n 0, 1) := by decide +kernel
theorem dX11_span_1 : decode cX11_span 1 = .ok (.iload_n 1, 1) := by decide +kernel
theorem dX11_span_2 : decode cX11_span 2 = .ok (.iconst 0, 1) := by decide +kernel
theorem dX11_span_3 : decode cX11_span 3 = .ok (.bipush 40, 2) := by decide +kernel
theorem dX11_span_5 : decode cX11_span 5 = .ok (.invokevirtual 191, 3) := by decide +kernel
theorem dX11_span_8 : decode cX11_span 8 = .ok (.aload_n 0, 1) := by decide +kernel
theorem dX11_span_9 : decode cX11_span 9 = .ok (.iload_n 1, 1) := by decide +kernel
theorem dX11_span_10 : decode cX11_span 10 = .ok (.iconst 1, 1) := by decide +kernel
theorem dX11_span_11 : decode cX11_span 11 = .ok (.invokevirtual 321, 3) := by decide +kernel
theorem dX11_span_14 : decode cX11_span 14 = .ok (.istore_n 3, 1) := by decide +kernel
theorem dX11_span_15 : decode cX11_span 15 = .ok (.iconst 2, 1) := by decide +kernel
theorem dX11_span_16 : decode cX11_span 16 = .ok (.istore 4, 2) := by decide +kernel
theorem dX11_span_18 : decode cX11_span 18 = .ok (.iload 4, 2) := by decide +kernel
theorem dX11_span_20 : decode cX11_span 20 = .ok (.bipush 6, 2) := by decide +kernel
theorem dX11_span_22 : decode cX11_span 22 = .ok (.if_icmp .gt 38, 3) := by decide +kernel
theorem dX11_span_25 : decode cX11_span 25 = .ok (.aload_n 0, 1) := by decide +kernel
theorem dX11_span_26 : decode cX11_span 26 = .ok (.iload_n 1, 1) := by decide +kernel
theorem dX11_span_27 : decode cX11_span 27 = .ok (.iload 4, 2) := by decide +kernel
theorem dX11_span_29 : decode cX11_span 29 = .ok (.invokevirtual 321, 3) := by decide +kernel
theorem dX11_span_32 : decode cX11_span 32 = .ok (.istore 5, 2) := by decide +kernel
theorem dX11_span_34 : decode cX11_span 34 = .ok (.iload_n 2, 1) := by decide +kernel
theorem dX11_span_35 : decode cX11_span 35 = .ok (.ifCond .eq 12, 3) := by decide +kernel
theorem dX11_span_38 : decode cX11_span 38 = .ok (.iload_n 3, 1) := by decide +kernel
theorem dX11_span_39 : decode cX11_span 39 = .ok (.iload 5, 2) := by decide +kernel
theorem dX11_span_41 : decode cX11_span 41 = .ok (.invokestatic 207, 3) := by decide +kernel
theorem dX11_span_44 : decode cX11_span 44 = .ok (.goto 9, 3) := by decide +kernel
theorem dX11_span_47 : decode cX11_span 47 = .ok (.iload_n 3, 1) := by decide +kernel
theorem dX11_span_48 : decode cX11_span 48 = .ok (.iload 5, 2) := by decide +kernel
theorem dX11_span_50 : decode cX11_span 50 = .ok (.invokestatic 202, 3) := by decide +kernel
theorem dX11_span_53 : decode cX11_span 53 = .ok (.istore_n 3, 1) := by decide +kernel
theorem dX11_span_54 : decode cX11_span 54 = .ok (.iinc 4 1, 3) := by decide +kernel
theorem dX11_span_57 : decode cX11_span 57 = .ok (.goto (-39), 3) := by decide +kernel
theorem dX11_span_60 : decode cX11_span 60 = .ok (.iload_n 3, 1) := by decide +kernel
theorem dX11_span_61 : decode cX11_span 61 = .ok (.ireturn, 1) := by decide +kernel
theorem dX11_led_0 : decode cX11_led 0 = .ok (.aload_n 0, 1) := by decide +kernel
theorem dX11_led_1 : decode cX11_led 1 = .ok (.iload_n 1, 1) := by decide +kernel
theorem dX11_led_2 : decode cX11_led 2 = .ok (.invokevirtual 119, 3) := by decide +kernel
theorem dX11_led_5 : decode cX11_led 5 = .ok (.iload_n 2, 1) := by decide +kernel
theorem dX11_led_6 : decode cX11_led 6 = .ok (.ifCond .eq 17, 3) := by decide +kernel
theorem dX11_led_9 : decode cX11_led 9 = .ok (.aload_n 0, 1) := by decide +kernel
theorem dX11_led_10 : decode cX11_led 10 = .ok (.getfield 20, 3) := by decide +kernel
theorem dX11_led_13 : decode cX11_led 13 = .ok (.getfield 324, 3) := by decide +kernel
theorem dX11_led_16 : decode cX11_led 16 = .ok (.iload_n 1, 1) := by decide +kernel
theorem dX11_led_17 : decode cX11_led 17 = .ok (.invokevirtual 328, 3) := by decide +kernel
theorem dX11_led_20 : decode cX11_led 20 = .ok (.goto 14, 3) := by decide +kernel
theorem dX11_led_23 : decode cX11_led 23 = .ok (.aload_n 0, 1) := by decide +kernel
theorem dX11_led_24 : decode cX11_led 24 = .ok (.getfield 20, 3) := by decide +kernel
theorem dX11_led_27 : decode cX11_led 27 = .ok (.getfield 324, 3) := by decide +kernel
theorem dX11_led_30 : decode cX11_led 30 = .ok (.iload_n 1, 1) := by decide +kernel
theorem dX11_led_31 : decode cX11_led 31 = .ok (.invokevirtual 333, 3) := by decide +kernel
theorem dX11_led_34 : decode cX11_led 34 = .ok (.ireturn, 1) := by decide +kernel
theorem dX11_log_0 : decode cX11_log 0 = .ok (.iload_n 2, 1) := by decide +kernel
theorem dX11_log_1 : decode cX11_log 1 = .ok (.ifCond .lt 8, 3) := by decide +kernel
theorem dX11_log_4 : decode cX11_log 4 = .ok (.iload_n 2, 1) := by decide +kernel
theorem dX11_log_5 : decode cX11_log 5 = .ok (.iconst 4, 1) := by decide +kernel
theorem dX11_log_6 : decode cX11_log 6 = .ok (.if_icmp .lt 13, 3) := by decide +kernel
theorem dX11_log_9 : decode cX11_log 9 = .ok (.new 157, 3) := by decide +kernel
theorem dX11_log_12 : decode cX11_log 12 = .ok (.dup, 1) := by decide +kernel
theorem dX11_log_13 : decode cX11_log 13 = .ok (.ldc 159, 2) := by decide +kernel
theorem dX11_log_15 : decode cX11_log 15 = .ok (.invokespecial 161, 3) := by decide +kernel
theorem dX11_log_18 : decode cX11_log 18 = .ok (.athrow, 1) := by decide +kernel
theorem dX11_log_19 : decode cX11_log 19 = .ok (.aload_n 0, 1) := by decide +kernel
theorem dX11_log_20 : decode cX11_log 20 = .ok (.getfield 20, 3) := by decide +kernel
theorem dX11_log_23 : decode cX11_log 23 = .ok (.getfield 324, 3) := by decide +kernel
theorem dX11_log_26 : decode cX11_log 26 = .ok (.iload_n 1, 1) := by decide +kernel
theorem dX11_log_27 : decode cX11_log 27 = .ok (.iload_n 2, 1) := by decide +kernel
theorem dX11_log_28 : decode cX11_log 28 = .ok (.invokevirtual 336, 3) := by decide +kernel
theorem dX11_log_31 : decode cX11_log 31 = .ok (.ireturn, 1) := by decide +kernel
theorem dX11_seed_0 : decode cX11_seed 0 = .ok (.aload_n 0, 1) := by decide +kernel
theorem dX11_seed_1 : decode cX11_seed 1 = .ok (.getfield 20, 3) := by decide +kernel
theorem dX11_seed_4 : decode cX11_seed 4 = .ok (.getfield 318, 3) := by decide +kernel
theorem dX11_seed_7 : decode cX11_seed 7 = .ok (.istore_n 2, 1) := by decide +kernel
theorem dX11_seed_8 : decode cX11_seed 8 = .ok (.aload_n 0, 1) := by decide +kernel
theorem dX11_seed_9 : decode cX11_seed 9 = .ok (.getfield 20, 3) := by decide +kernel
theorem dX11_seed_12 : decode cX11_seed 12 = .ok (.iload_n 1, 1) := by decide +kernel
theorem dX11_seed_13 : decode cX11_seed 13 = .ok (.putfield 318, 3) := by decide +kernel
theorem dX11_seed_16 : decode cX11_seed 16 = .ok (.iload_n 2, 1) := by decide +kernel
theorem dX11_seed_17 : decode cX11_seed 17 = .ok (.ireturn, 1) := by decide +kernel
theorem dX11_undo_0 : decode cX11_undo 0 = .ok (.aload_n 0, 1) := by decide +kernel
theorem dX11_undo_1 : decode cX11_undo 1 = .ok (.getfield 33, 3) := by decide +kernel
theorem dX11_undo_4 : decode cX11_undo 4 = .ok (.aload_n 0, 1) := by decide +kernel
theorem dX11_undo_5 : decode cX11_undo 5 = .ok (.getfield 20, 3) := by decide +kernel
theorem dX11_undo_8 : decode cX11_undo 8 = .ok (.invokevirtual 339, 3) := by decide +kernel
theorem dX11_undo_11 : decode cX11_undo 11 = .ok (.ireturn, 1) := by decide +kernel
theorem dX11_image_0 : decode cX11_image 0 = .ok (.aload_n 0, 1) := by decide +kernel
theorem dX11_image_1 : decode cX11_image 1 = .ok (.getfield 27, 3) := by decide +kernel
theorem dX11_image_4 : decode cX11_image 4 = .ok (.aload_n 0, 1) := by decide +kernel
theorem dX11_image_5 : decode cX11_image 5 = .ok (.getfield 20, 3) := by decide +kernel
theorem dX11_image_8 : decode cX11_image 8 = .ok (.invokevirtual 343, 3) := by decide +kernel
theorem dX11_image_11 : decode cX11_image 11 = .ok (.aload_n 0, 1) := by decide +kernel
theorem dX11_image_12 : decode cX11_image 12 = .ok (.iconst 1, 1) := by decide +kernel
theorem dX11_image_13 : decode cX11_image 13 = .ok (.putfield 346, 3) := by decide +kernel
theorem dX11_image_16 : decode cX11_image 16 = .ok (.return_, 1) := by decide +kernel
theorem dX11_back_0 : decode cX11_back 0 = .ok (.aload_n 0, 1) := by decide +kernel
theorem dX11_back_1 : decode cX11_back 1 = .ok (.getfield 346, 3) := by decide +kernel
theorem dX11_back_4 : decode cX11_back 4 = .ok (.ifCond .ne 5, 3) := by decide +kernel
theorem dX11_back_7 : decode cX11_back 7 = .ok (.iconst 0, 1) := by decide +kernel
theorem dX11_back_8 : decode cX11_back 8 = .ok (.ireturn, 1) := by decide +kernel
theorem dX11_back_9 : decode cX11_back 9 = .ok (.aload_n 0, 1) := by decide +kernel
theorem dX11_back_10 : decode cX11_back 10 = .ok (.getfield 20, 3) := by decide +kernel
theorem dX11_back_13 : decode cX11_back 13 = .ok (.aload_n 0, 1) := by decide +kernel
theorem dX11_back_14 : decode cX11_back 14 = .ok (.getfield 27, 3) := by decide +kernel
theorem dX11_back_17 : decode cX11_back 17 = .ok (.invokevirtual 343, 3) := by decide +kernel
theorem dX11_back_20 : decode cX11_back 20 = .ok (.aload_n 0, 1) := by decide +kernel
theorem dX11_back_21 : decode cX11_back 21 = .ok (.getfield 33, 3) := by decide +kernel
theorem dX11_back_24 : decode cX11_back 24 = .ok (.invokevirtual 104, 3) := by decide +kernel
theorem dX11_back_27 : decode cX11_back 27 = .ok (.iconst 1, 1) := by decide +kernel
theorem dX11_back_28 : decode cX11_back 28 = .ok (.ireturn, 1) := by decide +kernel
theorem dX11_count_0 : decode cX11_count 0 = .ok (.iload_n 1, 1) := by decide +kernel
theorem dX11_count_1 : decode cX11_count 1 = .ok (.tableswitch 230 0 14 #[75, 83, 91, 99, 124, 132, 140, 148, 156, 164, 179, 187, 203, 211, 222], 75) := by decide +kernel
theorem dX11_count_76 : decode cX11_count 76 = .ok (.aload_n 0, 1) := by decide +kernel
theorem dX11_count_77 : decode cX11_count 77 = .ok (.getfield 20, 3) := by decide +kernel
theorem dX11_count_80 : decode cX11_count 80 = .ok (.getfield 278, 3) := by decide +kernel
theorem dX11_count_83 : decode cX11_count 83 = .ok (.ireturn, 1) := by decide +kernel
theorem dX11_count_84 : decode cX11_count 84 = .ok (.aload_n 0, 1) := by decide +kernel
theorem dX11_count_85 : decode cX11_count 85 = .ok (.getfield 20, 3) := by decide +kernel
theorem dX11_count_88 : decode cX11_count 88 = .ok (.getfield 219, 3) := by decide +kernel
theorem dX11_count_91 : decode cX11_count 91 = .ok (.ireturn, 1) := by decide +kernel
theorem dX11_count_92 : decode cX11_count 92 = .ok (.aload_n 0, 1) := by decide +kernel
theorem dX11_count_93 : decode cX11_count 93 = .ok (.getfield 20, 3) := by decide +kernel
theorem dX11_count_96 : decode cX11_count 96 = .ok (.getfield 96, 3) := by decide +kernel
theorem dX11_count_99 : decode cX11_count 99 = .ok (.ireturn, 1) := by decide +kernel
theorem dX11_count_100 : decode cX11_count 100 = .ok (.aload_n 0, 1) := by decide +kernel
theorem dX11_count_101 : decode cX11_count 101 = .ok (.getfield 20, 3) := by decide +kernel
theorem dX11_count_104 : decode cX11_count 104 = .ok (.getfield 110, 3) := by decide +kernel
theorem dX11_count_107 : decode cX11_count 107 = .ok (.ifnonnull 7, 3) := by decide +kernel
theorem dX11_count_110 : decode cX11_count 110 = .ok (.iconst (-1), 1) := by decide +kernel
theorem dX11_count_111 : decode cX11_count 111 = .ok (.goto 13, 3) := by decide +kernel
theorem dX11_count_114 : decode cX11_count 114 = .ok (.aload_n 0, 1) := by decide +kernel
theorem dX11_count_115 : decode cX11_count 115 = .ok (.getfield 20, 3) := by decide +kernel
theorem dX11_count_118 : decode cX11_count 118 = .ok (.getfield 110, 3) := by decide +kernel
theorem dX11_count_121 : decode cX11_count 121 = .ok (.getfield 114, 3) := by decide +kernel
theorem dX11_count_124 : decode cX11_count 124 = .ok (.ireturn, 1) := by decide +kernel
theorem dX11_count_125 : decode cX11_count 125 = .ok (.aload_n 0, 1) := by decide +kernel
theorem dX11_count_126 : decode cX11_count 126 = .ok (.getfield 20, 3) := by decide +kernel
theorem dX11_count_129 : decode cX11_count 129 = .ok (.getfield 230, 3) := by decide +kernel
theorem dX11_count_132 : decode cX11_count 132 = .ok (.ireturn, 1) := by decide +kernel
theorem dX11_count_133 : decode cX11_count 133 = .ok (.aload_n 0, 1) := by decide +kernel
theorem dX11_count_134 : decode cX11_count 134 = .ok (.getfield 20, 3) := by decide +kernel
theorem dX11_count_137 : decode cX11_count 137 = .ok (.getfield 306, 3) := by decide +kernel
theorem dX11_count_140 : decode cX11_count 140 = .ok (.ireturn, 1) := by decide +kernel
theorem dX11_count_141 : decode cX11_count 141 = .ok (.aload_n 0, 1) := by decide +kernel
theorem dX11_count_142 : decode cX11_count 142 = .ok (.getfield 20, 3) := by decide +kernel
theorem dX11_count_145 : decode cX11_count 145 = .ok (.getfield 349, 3) := by decide +kernel
theorem dX11_count_148 : decode cX11_count 148 = .ok (.ireturn, 1) := by decide +kernel
theorem dX11_count_149 : decode cX11_count 149 = .ok (.aload_n 0, 1) := by decide +kernel
theorem dX11_count_150 : decode cX11_count 150 = .ok (.getfield 20, 3) := by decide +kernel
theorem dX11_count_153 : decode cX11_count 153 = .ok (.getfield 352, 3) := by decide +kernel
theorem dX11_count_156 : decode cX11_count 156 = .ok (.ireturn, 1) := by decide +kernel
theorem dX11_count_157 : decode cX11_count 157 = .ok (.aload_n 0, 1) := by decide +kernel
theorem dX11_count_158 : decode cX11_count 158 = .ok (.getfield 20, 3) := by decide +kernel
theorem dX11_count_161 : decode cX11_count 161 = .ok (.getfield 355, 3) := by decide +kernel
theorem dX11_count_164 : decode cX11_count 164 = .ok (.ireturn, 1) := by decide +kernel
theorem dX11_count_165 : decode cX11_count 165 = .ok (.aload_n 0, 1) := by decide +kernel
theorem dX11_count_166 : decode cX11_count 166 = .ok (.getfield 20, 3) := by decide +kernel
theorem dX11_count_169 : decode cX11_count 169 = .ok (.aload_n 0, 1) := by decide +kernel
theorem dX11_count_170 : decode cX11_count 170 = .ok (.getfield 20, 3) := by decide +kernel
theorem dX11_count_173 : decode cX11_count 173 = .ok (.invokevirtual 222, 3) := by decide +kernel
theorem dX11_count_176 : decode cX11_count 176 = .ok (.invokevirtual 269, 3) := by decide +kernel
theorem dX11_count_179 : decode cX11_count 179 = .ok (.ireturn, 1) := by decide +kernel
theorem dX11_count_180 : decode cX11_count 180 = .ok (.aload_n 0, 1) := by decide +kernel
theorem dX11_count_181 : decode cX11_count 181 = .ok (.getfield 20, 3) := by decide +kernel
theorem dX11_count_184 : decode cX11_count 184 = .ok (.invokevirtual 358, 3) := by decide +kernel
theorem dX11_count_187 : decode cX11_count 187 = .ok (.ireturn, 1) := by decide +kernel
theorem dX11_count_188 : decode cX11_count 188 = .ok (.aload_n 0, 1) := by decide +kernel
theorem dX11_count_189 : decode cX11_count 189 = .ok (.getfield 20, 3) := by decide +kernel
theorem dX11_count_192 : decode cX11_count 192 = .ok (.getfield 226, 3) := by decide +kernel
theorem dX11_count_195 : decode cX11_count 195 = .ok (.ifCond .eq 7, 3) := by decide +kernel
theorem dX11_count_198 : decode cX11_count 198 = .ok (.iconst 1, 1) := by decide +kernel
theorem dX11_count_199 : decode cX11_count 199 = .ok (.goto 4, 3) := by decide +kernel
theorem dX11_count_202 : decode cX11_count 202 = .ok (.iconst 0, 1) := by decide +kernel
theorem dX11_count_203 : decode cX11_count 203 = .ok (.ireturn, 1) := by decide +kernel
theorem dX11_count_204 : decode cX11_count 204 = .ok (.aload_n 0, 1) := by decide +kernel
theorem dX11_count_205 : decode cX11_count 205 = .ok (.getfield 20, 3) := by decide +kernel
theorem dX11_count_208 : decode cX11_count 208 = .ok (.getfield 241, 3) := by decide +kernel
theorem dX11_count_211 : decode cX11_count 211 = .ok (.ireturn, 1) := by decide +kernel
theorem dX11_count_212 : decode cX11_count 212 = .ok (.aload_n 0, 1) := by decide +kernel
theorem dX11_count_213 : decode cX11_count 213 = .ok (.getfield 20, 3) := by decide +kernel
theorem dX11_count_216 : decode cX11_count 216 = .ok (.getfield 324, 3) := by decide +kernel
theorem dX11_count_219 : decode cX11_count 219 = .ok (.getfield 361, 3) := by decide +kernel
theorem dX11_count_222 : decode cX11_count 222 = .ok (.ireturn, 1) := by decide +kernel
theorem dX11_count_223 : decode cX11_count 223 = .ok (.aload_n 0, 1) := by decide +kernel
theorem dX11_count_224 : decode cX11_count 224 = .ok (.getfield 33, 3) := by decide +kernel
theorem dX11_count_227 : decode cX11_count 227 = .ok (.getfield 364, 3) := by decide +kernel
theorem dX11_count_230 : decode cX11_count 230 = .ok (.ireturn, 1) := by decide +kernel
theorem dX11_count_231 : decode cX11_count 231 = .ok (.iconst (-1), 1) := by decide +kernel
theorem dX11_count_232 : decode cX11_count 232 = .ok (.ireturn, 1) := by decide +kernel
theorem dX11_addBytes_0 : decode cX11_addBytes 0 = .ok (.bipush 24, 2) := by decide +kernel
theorem dX11_addBytes_2 : decode cX11_addBytes 2 = .ok (.istore_n 2, 1) := by decide +kernel
theorem dX11_addBytes_3 : decode cX11_addBytes 3 = .ok (.iload_n 2, 1) := by decide +kernel
theorem dX11_addBytes_4 : decode cX11_addBytes 4 = .ok (.ifCond .lt 45, 3) := by decide +kernel
theorem dX11_addBytes_7 : decode cX11_addBytes 7 = .ok (.aload_n 0, 1) := by decide +kernel
theorem dX11_addBytes_8 : decode cX11_addBytes 8 = .ok (.getfield 65, 3) := by decide +kernel
theorem dX11_addBytes_11 : decode cX11_addBytes 11 = .ok (.sipush 400, 3) := by decide +kernel
theorem dX11_addBytes_14 : decode cX11_addBytes 14 = .ok (.if_icmp .ge 35, 3) := by decide +kernel
theorem dX11_addBytes_17 : decode cX11_addBytes 17 = .ok (.aload_n 0, 1) := by decide +kernel
theorem dX11_addBytes_18 : decode cX11_addBytes 18 = .ok (.getfield 9, 3) := by decide +kernel
theorem dX11_addBytes_21 : decode cX11_addBytes 21 = .ok (.aload_n 0, 1) := by decide +kernel
theorem dX11_addBytes_22 : decode cX11_addBytes 22 = .ok (.getfield 65, 3) := by decide +kernel
theorem dX11_addBytes_25 : decode cX11_addBytes 25 = .ok (.iload_n 1, 1) := by decide +kernel
theorem dX11_addBytes_26 : decode cX11_addBytes 26 = .ok (.iload_n 2, 1) := by decide +kernel
theorem dX11_addBytes_27 : decode cX11_addBytes 27 = .ok (.iushr, 1) := by decide +kernel
theorem dX11_addBytes_28 : decode cX11_addBytes 28 = .ok (.sipush 255, 3) := by decide +kernel
theorem dX11_addBytes_31 : decode cX11_addBytes 31 = .ok (.iand, 1) := by decide +kernel
theorem dX11_addBytes_32 : decode cX11_addBytes 32 = .ok (.iastore, 1) := by decide +kernel
theorem dX11_addBytes_33 : decode cX11_addBytes 33 = .ok (.aload_n 0, 1) := by decide +kernel
theorem dX11_addBytes_34 : decode cX11_addBytes 34 = .ok (.dup, 1) := by decide +kernel
theorem dX11_addBytes_35 : decode cX11_addBytes 35 = .ok (.getfield 65, 3) := by decide +kernel
theorem dX11_addBytes_38 : decode cX11_addBytes 38 = .ok (.iconst 1, 1) := by decide +kernel
theorem dX11_addBytes_39 : decode cX11_addBytes 39 = .ok (.iadd, 1) := by decide +kernel
theorem dX11_addBytes_40 : decode cX11_addBytes 40 = .ok (.putfield 65, 3) := by decide +kernel
theorem dX11_addBytes_43 : decode cX11_addBytes 43 = .ok (.iinc 2 (-8), 3) := by decide +kernel
theorem dX11_addBytes_46 : decode cX11_addBytes 46 = .ok (.goto (-43), 3) := by decide +kernel
theorem dX11_addBytes_49 : decode cX11_addBytes 49 = .ok (.return_, 1) := by decide +kernel
theorem dX11_mustBePerson_0 : decode cX11_mustBePerson 0 = .ok (.iload_n 1, 1) := by decide +kernel
theorem dX11_mustBePerson_1 : decode cX11_mustBePerson 1 = .ok (.ifCond .lt 14, 3) := by decide +kernel
theorem dX11_mustBePerson_4 : decode cX11_mustBePerson 4 = .ok (.iload_n 1, 1) := by decide +kernel
theorem dX11_mustBePerson_5 : decode cX11_mustBePerson 5 = .ok (.aload_n 0, 1) := by decide +kernel
theorem dX11_mustBePerson_6 : decode cX11_mustBePerson 6 = .ok (.getfield 20, 3) := by decide +kernel
theorem dX11_mustBePerson_9 : decode cX11_mustBePerson 9 = .ok (.getfield 278, 3) := by decide +kernel
theorem dX11_mustBePerson_12 : decode cX11_mustBePerson 12 = .ok (.if_icmp .lt 14, 3) := by decide +kernel
theorem dX11_mustBePerson_15 : decode cX11_mustBePerson 15 = .ok (.new 365, 3) := by decide +kernel
theorem dX11_mustBePerson_18 : decode cX11_mustBePerson 18 = .ok (.dup, 1) := by decide +kernel
theorem dX11_mustBePerson_19 : decode cX11_mustBePerson 19 = .ok (.ldc_w 367, 3) := by decide +kernel
theorem dX11_mustBePerson_22 : decode cX11_mustBePerson 22 = .ok (.invokespecial 369, 3) := by decide +kernel
theorem dX11_mustBePerson_25 : decode cX11_mustBePerson 25 = .ok (.athrow, 1) := by decide +kernel
theorem dX11_mustBePerson_26 : decode cX11_mustBePerson 26 = .ok (.return_, 1) := by decide +kernel
theorem dX11_mustBeWeekday_0 : decode cX11_mustBeWeekday 0 = .ok (.iload_n 1, 1) := by decide +kernel
theorem dX11_mustBeWeekday_1 : decode cX11_mustBeWeekday 1 = .ok (.ifCond .lt 9, 3) := by decide +kernel
theorem dX11_mustBeWeekday_4 : decode cX11_mustBeWeekday 4 = .ok (.iload_n 1, 1) := by decide +kernel
theorem dX11_mustBeWeekday_5 : decode cX11_mustBeWeekday 5 = .ok (.bipush 7, 2) := by decide +kernel
theorem dX11_mustBeWeekday_7 : decode cX11_mustBeWeekday 7 = .ok (.if_icmp .lt 14, 3) := by decide +kernel
theorem dX11_mustBeWeekday_10 : decode cX11_mustBeWeekday 10 = .ok (.new 365, 3) := by decide +kernel
theorem dX11_mustBeWeekday_13 : decode cX11_mustBeWeekday 13 = .ok (.dup, 1) := by decide +kernel
theorem dX11_mustBeWeekday_14 : decode cX11_mustBeWeekday 14 = .ok (.ldc_w 370, 3) := by decide +kernel
theorem dX11_mustBeWeekday_17 : decode cX11_mustBeWeekday 17 = .ok (.invokespecial 369, 3) := by decide +kernel
theorem dX11_mustBeWeekday_20 : decode cX11_mustBeWeekday 20 = .ok (.athrow, 1) := by decide +kernel
theorem dX11_mustBeWeekday_21 : decode cX11_mustBeWeekday 21 = .ok (.return_, 1) := by decide +kernel
theorem dX11_mustBeTwo_0 : decode cX11_mustBeTwo 0 = .ok (.aload_n 0, 1) := by decide +kernel
theorem dX11_mustBeTwo_1 : decode cX11_mustBeTwo 1 = .ok (.iload_n 1, 1) := by decide +kernel
theorem dX11_mustBeTwo_2 : decode cX11_mustBeTwo 2 = .ok (.invokevirtual 119, 3) := by decide +kernel
theorem dX11_mustBeTwo_5 : decode cX11_mustBeTwo 5 = .ok (.aload_n 0, 1) := by decide +kernel
theorem dX11_mustBeTwo_6 : decode cX11_mustBeTwo 6 = .ok (.iload_n 2, 1) := by decide +kernel
theorem dX11_mustBeTwo_7 : decode cX11_mustBeTwo 7 = .ok (.invokevirtual 119, 3) := by decide +kernel
theorem dX11_mustBeTwo_10 : decode cX11_mustBeTwo 10 = .ok (.iload_n 1, 1) := by decide +kernel
theorem dX11_mustBeTwo_11 : decode cX11_mustBeTwo 11 = .ok (.iload_n 2, 1) := by decide +kernel
theorem dX11_mustBeTwo_12 : decode cX11_mustBeTwo 12 = .ok (.if_icmp .ne 14, 3) := by decide +kernel
theorem dX11_mustBeTwo_15 : decode cX11_mustBeTwo 15 = .ok (.new 89, 3) := by decide +kernel
theorem dX11_mustBeTwo_18 : decode cX11_mustBeTwo 18 = .ok (.dup, 1) := by decide +kernel
theorem dX11_mustBeTwo_19 : decode cX11_mustBeTwo 19 = .ok (.ldc_w 372, 3) := by decide +kernel
theorem dX11_mustBeTwo_22 : decode cX11_mustBeTwo 22 = .ok (.invokespecial 93, 3) := by decide +kernel
theorem dX11_mustBeTwo_25 : decode cX11_mustBeTwo 25 = .ok (.athrow, 1) := by decide +kernel
theorem dX11_mustBeTwo_26 : decode cX11_mustBeTwo 26 = .ok (.return_, 1) := by decide +kernel
theorem dX11_mustLie_0 : decode cX11_mustLie 0 = .ok (.iload_n 1, 1) := by decide +kernel
theorem dX11_mustLie_1 : decode cX11_mustLie 1 = .ok (.iload_n 2, 1) := by decide +kernel
theorem dX11_mustLie_2 : decode cX11_mustLie 2 = .ok (.if_icmp .lt 8, 3) := by decide +kernel
theorem dX11_mustLie_5 : decode cX11_mustLie 5 = .ok (.iload_n 1, 1) := by decide +kernel
theorem dX11_mustLie_6 : decode cX11_mustLie 6 = .ok (.iload_n 3, 1) := by decide +kernel
theorem dX11_mustLie_7 : decode cX11_mustLie 7 = .ok (.if_icmp .le 14, 3) := by decide +kernel
theorem dX11_mustLie_10 : decode cX11_mustLie 10 = .ok (.new 89, 3) := by decide +kernel
theorem dX11_mustLie_13 : decode cX11_mustLie 13 = .ok (.dup, 1) := by decide +kernel
theorem dX11_mustLie_14 : decode cX11_mustLie 14 = .ok (.ldc_w 374, 3) := by decide +kernel
theorem dX11_mustLie_17 : decode cX11_mustLie 17 = .ok (.invokespecial 93, 3) := by decide +kernel
theorem dX11_mustLie_20 : decode cX11_mustLie 20 = .ok (.athrow, 1) := by decide +kernel
theorem dX11_mustLie_21 : decode cX11_mustLie 21 = .ok (.return_, 1) := by decide +kernel
theorem dX11_mustLive_0 : decode cX11_mustLive 0 = .ok (.aload_n 0, 1) := by decide +kernel
theorem dX11_mustLive_1 : decode cX11_mustLive 1 = .ok (.getfield 20, 3) := by decide +kernel
theorem dX11_mustLive_4 : decode cX11_mustLive 4 = .ok (.iload_n 1, 1) := by decide +kernel
theorem dX11_mustLive_5 : decode cX11_mustLive 5 = .ok (.invokevirtual 131, 3) := by decide +kernel
theorem dX11_mustLive_8 : decode cX11_mustLive 8 = .ok (.ifCond .ne 14, 3) := by decide +kernel
theorem dX11_mustLive_11 : decode cX11_mustLive 11 = .ok (.new 210, 3) := by decide +kernel
theorem dX11_mustLive_14 : decode cX11_mustLive 14 = .ok (.dup, 1) := by decide +kernel
theorem dX11_mustLive_15 : decode cX11_mustLive 15 = .ok (.ldc_w 376, 3) := by decide +kernel
theorem dX11_mustLive_18 : decode cX11_mustLive 18 = .ok (.invokespecial 214, 3) := by decide +kernel
theorem dX11_mustLive_21 : decode cX11_mustLive 21 = .ok (.athrow, 1) := by decide +kernel
theorem dX11_mustLive_22 : decode cX11_mustLive 22 = .ok (.return_, 1) := by decide +kernel
theorem dX11_mustStand_0 : decode cX11_mustStand 0 = .ok (.aload_n 0, 1) := by decide +kernel
theorem dX11_mustStand_1 : decode cX11_mustStand 1 = .ok (.getfield 20, 3) := by decide +kernel
theorem dX11_mustStand_4 : decode cX11_mustStand 4 = .ok (.getfield 226, 3) := by decide +kernel
theorem dX11_mustStand_7 : decode cX11_mustStand 7 = .ok (.ifCond .eq 14, 3) := by decide +kernel
theorem dX11_mustStand_10 : decode cX11_mustStand 10 = .ok (.new 210, 3) := by decide +kernel
theorem dX11_mustStand_13 : decode cX11_mustStand 13 = .ok (.dup, 1) := by decide +kernel
theorem dX11_mustStand_14 : decode cX11_mustStand 14 = .ok (.ldc_w 378, 3) := by decide +kernel
theorem dX11_mustStand_17 : decode cX11_mustStand 17 = .ok (.invokespecial 214, 3) := by decide +kernel
theorem dX11_mustStand_20 : decode cX11_mustStand 20 = .ok (.athrow, 1) := by decide +kernel
theorem dX11_mustStand_21 : decode cX11_mustStand 21 = .ok (.return_, 1) := by decide +kernel
theorem dX11_goAhead_0 : decode cX11_goAhead 0 = .ok (.aload_n 0, 1) := by decide +kernel
theorem dX11_goAhead_1 : decode cX11_goAhead 1 = .ok (.getfield 24, 3) := by decide +kernel
theorem dX11_goAhead_4 : decode cX11_goAhead 4 = .ok (.aload_n 0, 1) := by decide +kernel
theorem dX11_goAhead_5 : decode cX11_goAhead 5 = .ok (.getfield 20, 3) := by decide +kernel
theorem dX11_goAhead_8 : decode cX11_goAhead 8 = .ok (.invokevirtual 76, 3) := by decide +kernel
theorem dX11_goAhead_11 : decode cX11_goAhead 11 = .ok (.iconst 0, 1) := by decide +kernel
theorem dX11_goAhead_12 : decode cX11_goAhead 12 = .ok (.istore_n 2, 1) := by decide +kernel
theorem dX11_goAhead_13 : decode cX11_goAhead 13 = .ok (.iload_n 2, 1) := by decide +kernel
theorem dX11_goAhead_14 : decode cX11_goAhead 14 = .ok (.iload_n 1, 1) := by decide +kernel
theorem dX11_goAhead_15 : decode cX11_goAhead 15 = .ok (.if_icmp .ge 22, 3) := by decide +kernel
theorem dX11_goAhead_18 : decode cX11_goAhead 18 = .ok (.aload_n 0, 1) := by decide +kernel
theorem dX11_goAhead_19 : decode cX11_goAhead 19 = .ok (.getfield 54, 3) := by decide +kernel
theorem dX11_goAhead_22 : decode cX11_goAhead 22 = .ok (.aload_n 0, 1) := by decide +kernel
theorem dX11_goAhead_23 : decode cX11_goAhead 23 = .ok (.getfield 24, 3) := by decide +kernel
theorem dX11_goAhead_26 : decode cX11_goAhead 26 = .ok (.iconst 0, 1) := by decide +kernel
theorem dX11_goAhead_27 : decode cX11_goAhead 27 = .ok (.invokevirtual 233, 3) := by decide +kernel
theorem dX11_goAhead_30 : decode cX11_goAhead 30 = .ok (.pop, 1) := by decide +kernel
theorem dX11_goAhead_31 : decode cX11_goAhead 31 = .ok (.iinc 2 1, 3) := by decide +kernel
theorem dX11_goAhead_34 : decode cX11_goAhead 34 = .ok (.goto (-21), 3) := by decide +kernel
theorem dX11_goAhead_37 : decode cX11_goAhead 37 = .ok (.return_, 1) := by decide +kernel
theorem dX11_tryDays_0 : decode cX11_tryDays 0 = .ok (.aload_n 0, 1) := by decide +kernel
theorem dX11_tryDays_1 : decode cX11_tryDays 1 = .ok (.getfield 24, 3) := by decide +kernel
theorem dX11_tryDays_4 : decode cX11_tryDays 4 = .ok (.aload_n 0, 1) := by decide +kernel
theorem dX11_tryDays_5 : decode cX11_tryDays 5 = .ok (.getfield 20, 3) := by decide +kernel
theorem dX11_tryDays_8 : decode cX11_tryDays 8 = .ok (.invokevirtual 76, 3) := by decide +kernel
theorem dX11_tryDays_11 : decode cX11_tryDays 11 = .ok (.aload_n 0, 1) := by decide +kernel
theorem dX11_tryDays_12 : decode cX11_tryDays 12 = .ok (.getfield 24, 3) := by decide +kernel
theorem dX11_tryDays_15 : decode cX11_tryDays 15 = .ok (.iload_n 2, 1) := by decide +kernel
theorem dX11_tryDays_16 : decode cX11_tryDays 16 = .ok (.putfield 318, 3) := by decide +kernel
theorem dX11_tryDays_19 : decode cX11_tryDays 19 = .ok (.iconst 0, 1) := by decide +kernel
theorem dX11_tryDays_20 : decode cX11_tryDays 20 = .ok (.istore_n 3, 1) := by decide +kernel
theorem dX11_tryDays_21 : decode cX11_tryDays 21 = .ok (.iconst 0, 1) := by decide +kernel
theorem dX11_tryDays_22 : decode cX11_tryDays 22 = .ok (.istore 4, 2) := by decide +kernel
theorem dX11_tryDays_24 : decode cX11_tryDays 24 = .ok (.iload 4, 2) := by decide +kernel
theorem dX11_tryDays_26 : decode cX11_tryDays 26 = .ok (.iload_n 1, 1) := by decide +kernel
theorem dX11_tryDays_27 : decode cX11_tryDays 27 = .ok (.if_icmp .ge 24, 3) := by decide +kernel
theorem dX11_tryDays_30 : decode cX11_tryDays 30 = .ok (.iload_n 3, 1) := by decide +kernel
theorem dX11_tryDays_31 : decode cX11_tryDays 31 = .ok (.aload_n 0, 1) := by decide +kernel
theorem dX11_tryDays_32 : decode cX11_tryDays 32 = .ok (.getfield 54, 3) := by decide +kernel
theorem dX11_tryDays_35 : decode cX11_tryDays 35 = .ok (.aload_n 0, 1) := by decide +kernel
theorem dX11_tryDays_36 : decode cX11_tryDays 36 = .ok (.getfield 24, 3) := by decide +kernel
theorem dX11_tryDays_39 : decode cX11_tryDays 39 = .ok (.iconst 1, 1) := by decide +kernel
theorem dX11_tryDays_40 : decode cX11_tryDays 40 = .ok (.invokevirtual 233, 3) := by decide +kernel
theorem dX11_tryDays_43 : decode cX11_tryDays 43 = .ok (.iadd, 1) := by decide +kernel
theorem dX11_tryDays_44 : decode cX11_tryDays 44 = .ok (.istore_n 3, 1) := by decide +kernel
theorem dX11_tryDays_45 : decode cX11_tryDays 45 = .ok (.iinc 4 1, 3) := by decide +kernel
theorem dX11_tryDays_48 : decode cX11_tryDays 48 = .ok (.goto (-24), 3) := by decide +kernel
theorem dX11_tryDays_51 : decode cX11_tryDays 51 = .ok (.iload_n 3, 1) := by decide +kernel
theorem dX11_tryDays_52 : decode cX11_tryDays 52 = .ok (.ireturn, 1) := by decide +kernel
theorem dX12_thrown_0 : decode cX12_thrown 0 = .ok (.aload_n 0, 1) := by decide +kernel
theorem dX12_thrown_1 : decode cX12_thrown 1 = .ok (.getfield 3, 3) := by decide +kernel
theorem dX12_thrown_4 : decode cX12_thrown 4 = .ok (.ireturn, 1) := by decide +kernel
theorem dX12_throwsIf_0 : decode cX12_throwsIf 0 = .ok (.iload_n 1, 1) := by decide +kernel
theorem dX12_throwsIf_1 : decode cX12_throwsIf 1 = .ok (.ifCond .eq 8, 3) := by decide +kernel
theorem dX12_throwsIf_4 : decode cX12_throwsIf 4 = .ok (.aload_n 0, 1) := by decide +kernel
theorem dX12_throwsIf_5 : decode cX12_throwsIf 5 = .ok (.iload_n 2, 1) := by decide +kernel
theorem dX12_throwsIf_6 : decode cX12_throwsIf 6 = .ok (.putfield 3, 3) := by decide +kernel
theorem dX12_throwsIf_9 : decode cX12_throwsIf 9 = .ok (.iload_n 1, 1) := by decide +kernel
theorem dX12_throwsIf_10 : decode cX12_throwsIf 10 = .ok (.ireturn, 1) := by decide +kernel
theorem dX12_in_0 : decode cX12_in 0 = .ok (.iload_n 0, 1) := by decide +kernel
theorem dX12_in_1 : decode cX12_in 1 = .ok (.iload_n 1, 1) := by decide +kernel
theorem dX12_in_2 : decode cX12_in 2 = .ok (.if_icmp .lt 12, 3) := by decide +kernel
theorem dX12_in_5 : decode cX12_in 5 = .ok (.iload_n 0, 1) := by decide +kernel
theorem dX12_in_6 : decode cX12_in 6 = .ok (.iload_n 2, 1) := by decide +kernel
theorem dX12_in_7 : decode cX12_in 7 = .ok (.if_icmp .gt 7, 3) := by decide +kernel
theorem dX12_in_10 : decode cX12_in 10 = .ok (.iconst 1, 1) := by decide +kernel
theorem dX12_in_11 : decode cX12_in 11 = .ok (.goto 4, 3) := by decide +kernel
theorem dX12_in_14 : decode cX12_in 14 = .ok (.iconst 0, 1) := by decide +kernel
theorem dX12_in_15 : decode cX12_in 15 = .ok (.ireturn, 1) := by decide +kernel
theorem dX12_has_0 : decode cX12_has 0 = .ok (.iload_n 0, 1) := by decide +kernel
theorem dX12_has_1 : decode cX12_has 1 = .ok (.iload_n 1, 1) := by decide +kernel
theorem dX12_has_2 : decode cX12_has 2 = .ok (.ishr, 1) := by decide +kernel
theorem dX12_has_3 : decode cX12_has 3 = .ok (.iconst 1, 1) := by decide +kernel
theorem dX12_has_4 : decode cX12_has 4 = .ok (.iand, 1) := by decide +kernel
theorem dX12_has_5 : decode cX12_has 5 = .ok (.iconst 1, 1) := by decide +kernel
theorem dX12_has_6 : decode cX12_has 6 = .ok (.if_icmp .ne 7, 3) := by decide +kernel
theorem dX12_has_9 : decode cX12_has 9 = .ok (.iconst 1, 1) := by decide +kernel
theorem dX12_has_10 : decode cX12_has 10 = .ok (.goto 4, 3) := by decide +kernel
theorem dX12_has_13 : decode cX12_has 13 = .ok (.iconst 0, 1) := by decide +kernel
theorem dX12_has_14 : decode cX12_has 14 = .ok (.ireturn, 1) := by decide +kernel
theorem dX12_init_0 : decode cX12_init 0 = .ok (.aload_n 0, 1) := by decide +kernel
theorem dX12_init_1 : decode cX12_init 1 = .ok (.invokespecial 7, 3) := by decide +kernel
theorem dX12_init_4 : decode cX12_init 4 = .ok (.aload_n 0, 1) := by decide +kernel
theorem dX12_init_5 : decode cX12_init 5 = .ok (.sipush 2118, 3) := by decide +kernel
theorem dX12_init_8 : decode cX12_init 8 = .ok (.newarray .int, 2) := by decide +kernel
theorem dX12_init_10 : decode cX12_init 10 = .ok (.putfield 13, 3) := by decide +kernel
theorem dX12_init_13 : decode cX12_init 13 = .ok (.aload_n 0, 1) := by decide +kernel
theorem dX12_init_14 : decode cX12_init 14 = .ok (.sipush 1269, 3) := by decide +kernel
theorem dX12_init_17 : decode cX12_init 17 = .ok (.newarray .int, 2) := by decide +kernel
theorem dX12_init_19 : decode cX12_init 19 = .ok (.putfield 17, 3) := by decide +kernel
theorem dX12_init_22 : decode cX12_init 22 = .ok (.aload_n 0, 1) := by decide +kernel
theorem dX12_init_23 : decode cX12_init 23 = .ok (.sipush 1269, 3) := by decide +kernel
theorem dX12_init_26 : decode cX12_init 26 = .ok (.newarray .int, 2) := by decide +kernel
theorem dX12_init_28 : decode cX12_init 28 = .ok (.putfield 20, 3) := by decide +kernel
theorem dX12_init_31 : decode cX12_init 31 = .ok (.aload_n 0, 1) := by decide +kernel
theorem dX12_init_32 : decode cX12_init 32 = .ok (.sipush 420, 3) := by decide +kernel
theorem dX12_init_35 : decode cX12_init 35 = .ok (.newarray .int, 2) := by decide +kernel
theorem dX12_init_37 : decode cX12_init 37 = .ok (.putfield 23, 3) := by decide +kernel
theorem dX12_init_40 : decode cX12_init 40 = .ok (.aload_n 0, 1) := by decide +kernel
theorem dX12_init_41 : decode cX12_init 41 = .ok (.sipush 5040, 3) := by decide +kernel
theorem dX12_init_44 : decode cX12_init 44 = .ok (.newarray .int, 2) := by decide +kernel
theorem dX12_init_46 : decode cX12_init 46 = .ok (.putfield 26, 3) := by decide +kernel
theorem dX12_init_49 : decode cX12_init 49 = .ok (.aload_n 0, 1) := by decide +kernel
theorem dX12_init_50 : decode cX12_init 50 = .ok (.sipush 400, 3) := by decide +kernel
theorem dX12_init_53 : decode cX12_init 53 = .ok (.newarray .byte, 2) := by decide +kernel
theorem dX12_init_55 : decode cX12_init 55 = .ok (.putfield 29, 3) := by decide +kernel
theorem dX12_init_58 : decode cX12_init 58 = .ok (.aload_n 0, 1) := by decide +kernel
theorem dX12_init_59 : decode cX12_init 59 = .ok (.iconst (-1), 1) := by decide +kernel
theorem dX12_init_60 : decode cX12_init 60 = .ok (.putfield 33, 3) := by decide +kernel
theorem dX12_init_63 : decode cX12_init 63 = .ok (.aload_n 0, 1) := by decide +kernel
theorem dX12_init_64 : decode cX12_init 64 = .ok (.iconst 5, 1) := by decide +kernel
theorem dX12_init_65 : decode cX12_init 65 = .ok (.newarray .int, 2) := by decide +kernel
theorem dX12_init_67 : decode cX12_init 67 = .ok (.putfield 36, 3) := by decide +kernel
theorem dX12_init_70 : decode cX12_init 70 = .ok (.aload_n 0, 1) := by decide +kernel
theorem dX12_init_71 : decode cX12_init 71 = .ok (.sipush 400, 3) := by decide +kernel
theorem dX12_init_74 : decode cX12_init 74 = .ok (.newarray .int, 2) := by decide +kernel
theorem dX12_init_76 : decode cX12_init 76 = .ok (.putfield 39, 3) := by decide +kernel
theorem dX12_init_79 : decode cX12_init 79 = .ok (.aload_n 0, 1) := by decide +kernel
theorem dX12_init_80 : decode cX12_init 80 = .ok (.bipush 8, 2) := by decide +kernel
theorem dX12_init_82 : decode cX12_init 82 = .ok (.newarray .int, 2) := by decide +kernel
theorem dX12_init_84 : decode cX12_init 84 = .ok (.putfield 42, 3) := by decide +kernel
theorem dX12_init_87 : decode cX12_init 87 = .ok (.aload_n 0, 1) := by decide +kernel
theorem dX12_init_88 : decode cX12_init 88 = .ok (.bipush 8, 2) := by decide +kernel
theorem dX12_init_90 : decode cX12_init 90 = .ok (.newarray .int, 2) := by decide +kernel
theorem dX12_init_92 : decode cX12_init 92 = .ok (.putfield 45, 3) := by decide +kernel
theorem dX12_init_95 : decode cX12_init 95 = .ok (.aload_n 0, 1) := by decide +kernel
theorem dX12_init_96 : decode cX12_init 96 = .ok (.bipush 8, 2) := by decide +kernel
theorem dX12_init_98 : decode cX12_init 98 = .ok (.newarray .int, 2) := by decide +kernel
theorem dX12_init_100 : decode cX12_init 100 = .ok (.putfield 48, 3) := by decide +kernel
theorem dX12_init_103 : decode cX12_init 103 = .ok (.aload_n 0, 1) := by decide +kernel
theorem dX12_init_104 : decode cX12_init 104 = .ok (.bipush 8, 2) := by decide +kernel
theorem dX12_init_106 : decode cX12_init 106 = .ok (.newarray .int, 2) := by decide +kernel
theorem dX12_init_108 : decode cX12_init 108 = .ok (.putfield 51, 3) := by decide +kernel
theorem dX12_init_111 : decode cX12_init 111 = .ok (.aload_n 0, 1) := by decide +kernel
theorem dX12_init_112 : decode cX12_init 112 = .ok (.sipush 256, 3) := by decide +kernel
theorem dX12_init_115 : decode cX12_init 115 = .ok (.newarray .int, 2) := by decide +kernel
theorem dX12_init_117 : decode cX12_init 117 = .ok (.putfield 54, 3) := by decide +kernel
theorem dX12_init_120 : decode cX12_init 120 = .ok (.aload_n 0, 1) := by decide +kernel
theorem dX12_init_121 : decode cX12_init 121 = .ok (.getfield 13, 3) := by decide +kernel
theorem dX12_init_124 : decode cX12_init 124 = .ok (.iconst 4, 1) := by decide +kernel
theorem dX12_init_125 : decode cX12_init 125 = .ok (.sipush 999, 3) := by decide +kernel
theorem dX12_init_128 : decode cX12_init 128 = .ok (.iastore, 1) := by decide +kernel
theorem dX12_init_129 : decode cX12_init 129 = .ok (.aload_n 0, 1) := by decide +kernel
theorem dX12_init_130 : decode cX12_init 130 = .ok (.getfield 13, 3) := by decide +kernel
theorem dX12_init_133 : decode cX12_init 133 = .ok (.iconst 5, 1) := by decide +kernel
theorem dX12_init_134 : decode cX12_init 134 = .ok (.iconst 2, 1) := by decide +kernel
theorem dX12_init_135 : decode cX12_init 135 = .ok (.iastore, 1) := by decide +kernel
theorem dX12_init_136 : decode cX12_init 136 = .ok (.aload_n 0, 1) := by decide +kernel
theorem dX12_init_137 : decode cX12_init 137 = .ok (.getfield 13, 3) := by decide +kernel
theorem dX12_init_140 : decode cX12_init 140 = .ok (.bipush 11, 2) := by decide +kernel
theorem dX12_init_142 : decode cX12_init 142 = .ok (.iconst 1, 1) := by decide +kernel
theorem dX12_init_143 : decode cX12_init 143 = .ok (.iastore, 1) := by decide +kernel
theorem dX12_init_144 : decode cX12_init 144 = .ok (.return_, 1) := by decide +kernel
theorem dX12_image_0 : decode cX12_image 0 = .ok (.aload_n 0, 1) := by decide +kernel
theorem dX12_image_1 : decode cX12_image 1 = .ok (.iconst 0, 1) := by decide +kernel
theorem dX12_image_2 : decode cX12_image 2 = .ok (.putfield 3, 3) := by decide +kernel
theorem dX12_image_5 : decode cX12_image 5 = .ok (.iconst 0, 1) := by decide +kernel
theorem dX12_image_6 : decode cX12_image 6 = .ok (.istore_n 1, 1) := by decide +kernel
theorem dX12_image_7 : decode cX12_image 7 = .ok (.iload_n 1, 1) := by decide +kernel
theorem dX12_image_8 : decode cX12_image 8 = .ok (.sipush 1269, 3) := by decide +kernel
theorem dX12_image_11 : decode cX12_image 11 = .ok (.if_icmp .ge 21, 3) := by decide +kernel
theorem dX12_image_14 : decode cX12_image 14 = .ok (.aload_n 0, 1) := by decide +kernel
theorem dX12_image_15 : decode cX12_image 15 = .ok (.getfield 17, 3) := by decide +kernel
theorem dX12_image_18 : decode cX12_image 18 = .ok (.iload_n 1, 1) := by decide +kernel
theorem dX12_image_19 : decode cX12_image 19 = .ok (.aload_n 0, 1) := by decide +kernel
theorem dX12_image_20 : decode cX12_image 20 = .ok (.getfield 13, 3) := by decide +kernel
theorem dX12_image_23 : decode cX12_image 23 = .ok (.iload_n 1, 1) := by decide +kernel
theorem dX12_image_24 : decode cX12_image 24 = .ok (.iaload, 1) := by decide +kernel
theorem dX12_image_25 : decode cX12_image 25 = .ok (.iastore, 1) := by decide +kernel
theorem dX12_image_26 : decode cX12_image 26 = .ok (.iinc 1 1, 3) := by decide +kernel
theorem dX12_image_29 : decode cX12_image 29 = .ok (.goto (-22), 3) := by decide +kernel
theorem dX12_image_32 : decode cX12_image 32 = .ok (.aload_n 0, 1) := by decide +kernel
theorem dX12_image_33 : decode cX12_image 33 = .ok (.iconst 1, 1) := by decide +kernel
theorem dX12_image_34 : decode cX12_image 34 = .ok (.putfield 57, 3) := by decide +kernel
theorem dX12_image_37 : decode cX12_image 37 = .ok (.return_, 1) := by decide +kernel
theorem dX12_back_0 : decode cX12_back 0 = .ok (.aload_n 0, 1) := by decide +kernel
theorem dX12_back_1 : decode cX12_back 1 = .ok (.iconst 0, 1) := by decide +kernel
theorem dX12_back_2 : decode cX12_back 2 = .ok (.putfield 3, 3) := by decide +kernel
theorem dX12_back_5 : decode cX12_back 5 = .ok (.aload_n 0, 1) := by decide +kernel
theorem dX12_back_6 : decode cX12_back 6 = .ok (.getfield 57, 3) := by decide +kernel
theorem dX12_back_9 : decode cX12_back 9 = .ok (.ifCond .ne 5, 3) := by decide +kernel
theorem dX12_back_12 : decode cX12_back 12 = .ok (.iconst 0, 1) := by decide +kernel
theorem dX12_back_13 : decode cX12_back 13 = .ok (.ireturn, 1) := by decide +kernel
theorem dX12_back_14 : decode cX12_back 14 = .ok (.iconst 0, 1) := by decide +kernel
theorem dX12_back_15 : decode cX12_back 15 = .ok (.istore_n 1, 1) := by decide +kernel
theorem dX12_back_16 : decode cX12_back 16 = .ok (.iload_n 1, 1) := by decide +kernel
theorem dX12_back_17 : decode cX12_back 17 = .ok (.sipush 1269, 3) := by decide +kernel
theorem dX12_back_20 : decode cX12_back 20 = .ok (.if_icmp .ge 21, 3) := by decide +kernel
theorem dX12_back_23 : decode cX12_back 23 = .ok (.aload_n 0, 1) := by decide +kernel
theorem dX12_back_24 : decode cX12_back 24 = .ok (.getfield 13, 3) := by decide +kernel
theorem dX12_back_27 : decode cX12_back 27 = .ok (.iload_n 1, 1) := by decide +kernel
theorem dX12_back_28 : decode cX12_back 28 = .ok (.aload_n 0, 1) := by decide +kernel
theorem dX12_back_29 : decode cX12_back 29 = .ok (.getfield 17, 3) := by decide +kernel
theorem dX12_back_32 : decode cX12_back 32 = .ok (.iload_n 1, 1) := by decide +kernel
theorem dX12_back_33 : decode cX12_back 33 = .ok (.iaload, 1) := by decide +kernel
theorem dX12_back_34 : decode cX12_back 34 = .ok (.iastore, 1) := by decide +kernel
theorem dX12_back_35 : decode cX12_back 35 = .ok (.iinc 1 1, 3) := by decide +kernel
theorem dX12_back_38 : decode cX12_back 38 = .ok (.goto (-22), 3) := by decide +kernel
theorem dX12_back_41 : decode cX12_back 41 = .ok (.aload_n 0, 1) := by decide +kernel
theorem dX12_back_42 : decode cX12_back 42 = .ok (.iconst 0, 1) := by decide +kernel
theorem dX12_back_43 : decode cX12_back 43 = .ok (.putfield 61, 3) := by decide +kernel
theorem dX12_back_46 : decode cX12_back 46 = .ok (.iconst 1, 1) := by decide +kernel
theorem dX12_back_47 : decode cX12_back 47 = .ok (.ireturn, 1) := by decide +kernel
theorem dX12_remembers_0 : decode cX12_remembers 0 = .ok (.aload_n 0, 1) := by decide +kernel
theorem dX12_remembers_1 : decode cX12_remembers 1 = .ok (.getfield 61, 3) := by decide +kernel
theorem dX12_remembers_4 : decode cX12_remembers 4 = .ok (.bipush 12, 2) := by decide +kernel
theorem dX12_remembers_6 : decode cX12_remembers 6 = .ok (.if_icmp .ne 37, 3) := by decide +kernel
theorem dX12_remembers_9 : decode cX12_remembers 9 = .ok (.iconst 0, 1) := by decide +kernel
theorem dX12_remembers_10 : decode cX12_remembers 10 = .ok (.istore_n 1, 1) := by decide +kernel
theorem dX12_remembers_11 : decode cX12_remembers 11 = .ok (.iload_n 1, 1) := by decide +kernel
theorem dX12_remembers_12 : decode cX12_remembers 12 = .ok (.sipush 4620, 3) := by decide +kernel
theorem dX12_remembers_15 : decode cX12_remembers 15 = .ok (.if_icmp .ge 25, 3) := by decide +kernel
theorem dX12_remembers_18 : decode cX12_remembers 18 = .ok (.aload_n 0, 1) := by decide +kernel
theorem dX12_remembers_19 : decode cX12_remembers 19 = .ok (.getfield 26, 3) := by decide +kernel
theorem dX12_remembers_22 : decode cX12_remembers 22 = .ok (.iload_n 1, 1) := by decide +kernel
theorem dX12_remembers_23 : decode cX12_remembers 23 = .ok (.aload_n 0, 1) := by decide +kernel
theorem dX12_remembers_24 : decode cX12_remembers 24 = .ok (.getfield 26, 3) := by decide +kernel
theorem dX12_remembers_27 : decode cX12_remembers 27 = .ok (.iload_n 1, 1) := by decide +kernel
theorem dX12_remembers_28 : decode cX12_remembers 28 = .ok (.sipush 420, 3) := by decide +kernel
theorem dX12_remembers_31 : decode cX12_remembers 31 = .ok (.iadd, 1) := by decide +kernel
theorem dX12_remembers_32 : decode cX12_remembers 32 = .ok (.iaload, 1) := by decide +kernel
theorem dX12_remembers_33 : decode cX12_remembers 33 = .ok (.iastore, 1) := by decide +kernel
theorem dX12_remembers_34 : decode cX12_remembers 34 = .ok (.iinc 1 1, 3) := by decide +kernel
theorem dX12_remembers_37 : decode cX12_remembers 37 = .ok (.goto (-26), 3) := by decide +kernel
theorem dX12_remembers_40 : decode cX12_remembers 40 = .ok (.goto 13, 3) := by decide +kernel
theorem dX12_remembers_43 : decode cX12_remembers 43 = .ok (.aload_n 0, 1) := by decide +kernel
theorem dX12_remembers_44 : decode cX12_remembers 44 = .ok (.dup, 1) := by decide +kernel
theorem dX12_remembers_45 : decode cX12_remembers 45 = .ok (.getfield 61, 3) := by decide +kernel
theorem dX12_remembers_48 : decode cX12_remembers 48 = .ok (.iconst 1, 1) := by decide +kernel
theorem dX12_remembers_49 : decode cX12_remembers 49 = .ok (.iadd, 1) := by decide +kernel
theorem dX12_remembers_50 : decode cX12_remembers 50 = .ok (.putfield 61, 3) := by decide +kernel
theorem dX12_remembers_53 : decode cX12_remembers 53 = .ok (.iconst 0, 1) := by decide +kernel
theorem dX12_remembers_54 : decode cX12_remembers 54 = .ok (.istore_n 1, 1) := by decide +kernel
theorem dX12_remembers_55 : decode cX12_remembers 55 = .ok (.iload_n 1, 1) := by decide +kernel
theorem dX12_remembers_56 : decode cX12_remembers 56 = .ok (.sipush 420, 3) := by decide +kernel
theorem dX12_remembers_59 : decode cX12_remembers 59 = .ok (.if_icmp .ge 32, 3) := by decide +kernel
theorem dX12_remembers_62 : decode cX12_remembers 62 = .ok (.aload_n 0, 1) := by decide +kernel
theorem dX12_remembers_63 : decode cX12_remembers 63 = .ok (.getfield 26, 3) := by decide +kernel
theorem dX12_remembers_66 : decode cX12_remembers 66 = .ok (.sipush 420, 3) := by decide +kernel
theorem dX12_remembers_69 : decode cX12_remembers 69 = .ok (.aload_n 0, 1) := by decide +kernel
theorem dX12_remembers_70 : decode cX12_remembers 70 = .ok (.getfield 61, 3) := by decide +kernel
theorem dX12_remembers_73 : decode cX12_remembers 73 = .ok (.iconst 1, 1) := by decide +kernel
theorem dX12_remembers_74 : decode cX12_remembers 74 = .ok (.isub, 1) := by decide +kernel
theorem dX12_remembers_75 : decode cX12_remembers 75 = .ok (.imul, 1) := by decide +kernel
theorem dX12_remembers_76 : decode cX12_remembers 76 = .ok (.iload_n 1, 1) := by decide +kernel
theorem dX12_remembers_77 : decode cX12_remembers 77 = .ok (.iadd, 1) := by decide +kernel
theorem dX12_remembers_78 : decode cX12_remembers 78 = .ok (.aload_n 0, 1) := by decide +kernel
theorem dX12_remembers_79 : decode cX12_remembers 79 = .ok (.getfield 13, 3) := by decide +kernel
theorem dX12_remembers_82 : decode cX12_remembers 82 = .ok (.iload_n 1, 1) := by decide +kernel
theorem dX12_remembers_83 : decode cX12_remembers 83 = .ok (.iaload, 1) := by decide +kernel
theorem dX12_remembers_84 : decode cX12_remembers 84 = .ok (.iastore, 1) := by decide +kernel
theorem dX12_remembers_85 : decode cX12_remembers 85 = .ok (.iinc 1 1, 3) := by decide +kernel
theorem dX12_remembers_88 : decode cX12_remembers 88 = .ok (.goto (-33), 3) := by decide +kernel
theorem dX12_remembers_91 : decode cX12_remembers 91 = .ok (.return_, 1) := by decide +kernel
theorem dX12_undo_0 : decode cX12_undo 0 = .ok (.aload_n 0, 1) := by decide +kernel
theorem dX12_undo_1 : decode cX12_undo 1 = .ok (.iconst 0, 1) := by decide +kernel
theorem dX12_undo_2 : decode cX12_undo 2 = .ok (.putfield 3, 3) := by decide +kernel
theorem dX12_undo_5 : decode cX12_undo 5 = .ok (.aload_n 0, 1) := by decide +kernel
theorem dX12_undo_6 : decode cX12_undo 6 = .ok (.getfield 61, 3) := by decide +kernel
theorem dX12_undo_9 : decode cX12_undo 9 = .ok (.ifCond .ne 5, 3) := by decide +kernel
theorem dX12_undo_12 : decode cX12_undo 12 = .ok (.iconst 0, 1) := by decide +kernel
theorem dX12_undo_13 : decode cX12_undo 13 = .ok (.ireturn, 1) := by decide +kernel
theorem dX12_undo_14 : decode cX12_undo 14 = .ok (.aload_n 0, 1) := by decide +kernel
theorem dX12_undo_15 : decode cX12_undo 15 = .ok (.dup, 1) := by decide +kernel
theorem dX12_undo_16 : decode cX12_undo 16 = .ok (.getfield 61, 3) := by decide +kernel
theorem dX12_undo_19 : decode cX12_undo 19 = .ok (.iconst 1, 1) := by decide +kernel
theorem dX12_undo_20 : decode cX12_undo 20 = .ok (.isub, 1) := by decide +kernel
theorem dX12_undo_21 : decode cX12_undo 21 = .ok (.putfield 61, 3) := by decide +kernel
theorem dX12_undo_24 : decode cX12_undo 24 = .ok (.iconst 0, 1) := by decide +kernel
theorem dX12_undo_25 : decode cX12_undo 25 = .ok (.istore_n 1, 1) := by decide +kernel
theorem dX12_undo_26 : decode cX12_undo 26 = .ok (.iload_n 1, 1) := by decide +kernel
theorem dX12_undo_27 : decode cX12_undo 27 = .ok (.sipush 420, 3) := by decide +kernel
theorem dX12_undo_30 : decode cX12_undo 30 = .ok (.if_icmp .ge 30, 3) := by decide +kernel
theorem dX12_undo_33 : decode cX12_undo 33 = .ok (.aload_n 0, 1) := by decide +kernel
theorem dX12_undo_34 : decode cX12_undo 34 = .ok (.getfield 13, 3) := by decide +kernel
theorem dX12_undo_37 : decode cX12_undo 37 = .ok (.iload_n 1, 1) := by decide +kernel
theorem dX12_undo_38 : decode cX12_undo 38 = .ok (.aload_n 0, 1) := by decide +kernel
theorem dX12_undo_39 : decode cX12_undo 39 = .ok (.getfield 26, 3) := by decide +kernel
theorem dX12_undo_42 : decode cX12_undo 42 = .ok (.sipush 420, 3) := by decide +kernel
theorem dX12_undo_45 : decode cX12_undo 45 = .ok (.aload_n 0, 1) := by decide +kernel
theorem dX12_undo_46 : decode cX12_undo 46 = .ok (.getfield 61, 3) := by decide +kernel
theorem dX12_undo_49 : decode cX12_undo 49 = .ok (.imul, 1) := by decide +kernel
theorem dX12_undo_50 : decode cX12_undo 50 = .ok (.iload_n 1, 1) := by decide +kernel
theorem dX12_undo_51 : decode cX12_undo 51 = .ok (.iadd, 1) := by decide +kernel
theorem dX12_undo_52 : decode cX12_undo 52 = .ok (.iaload, 1) := by decide +kernel
theorem dX12_undo_53 : decode cX12_undo 53 = .ok (.iastore, 1) := by decide +kernel
theorem dX12_undo_54 : decode cX12_undo 54 = .ok (.iinc 1 1, 3) := by decide +kernel
theorem dX12_undo_57 : decode cX12_undo 57 = .ok (.goto (-31), 3) := by decide +kernel
theorem dX12_undo_60 : decode cX12_undo 60 = .ok (.iconst 1, 1) := by decide +kernel
theorem dX12_undo_61 : decode cX12_undo 61 = .ok (.ireturn, 1) := by decide +kernel
theorem dX12_people_0 : decode cX12_people 0 = .ok (.aload_n 0, 1) := by decide +kernel
theorem dX12_people_1 : decode cX12_people 1 = .ok (.getfield 13, 3) := by decide +kernel
theorem dX12_people_4 : decode cX12_people 4 = .ok (.iconst 0, 1) := by decide +kernel
theorem dX12_people_5 : decode cX12_people 5 = .ok (.iaload, 1) := by decide +kernel
theorem dX12_people_6 : decode cX12_people 6 = .ok (.ireturn, 1) := by decide +kernel
theorem dX12_at_0 : decode cX12_at 0 = .ok (.bipush 12, 2) := by decide +kernel
theorem dX12_at_2 : decode cX12_at 2 = .ok (.bipush 13, 2) := by decide +kernel
theorem dX12_at_4 : decode cX12_at 4 = .ok (.iload_n 0, 1) := by decide +kernel
theorem dX12_at_5 : decode cX12_at 5 = .ok (.imul, 1) := by decide +kernel
theorem dX12_at_6 : decode cX12_at 6 = .ok (.iadd, 1) := by decide +kernel
theorem dX12_at_7 : decode cX12_at 7 = .ok (.iload_n 1, 1) := by decide +kernel
theorem dX12_at_8 : decode cX12_at 8 = .ok (.iadd, 1) := by decide +kernel
theorem dX12_at_9 : decode cX12_at 9 = .ok (.ireturn, 1) := by decide +kernel
theorem dX12_of_0 : decode cX12_of 0 = .ok (.aload_n 0, 1) := by decide +kernel
theorem dX12_of_1 : decode cX12_of 1 = .ok (.getfield 13, 3) := by decide +kernel
theorem dX12_of_4 : decode cX12_of 4 = .ok (.iload_n 1, 1) := by decide +kernel
theorem dX12_of_5 : decode cX12_of 5 = .ok (.iload_n 2, 1) := by decide +kernel
theorem dX12_of_6 : decode cX12_of 6 = .ok (.invokestatic 64, 3) := by decide +kernel
theorem dX12_of_9 : decode cX12_of 9 = .ok (.iaload, 1) := by decide +kernel
theorem dX12_of_10 : decode cX12_of 10 = .ok (.ireturn, 1) := by decide +kernel
theorem dX12_isAlive_0 : decode cX12_isAlive 0 = .ok (.aload_n 0, 1) := by decide +kernel
theorem dX12_isAlive_1 : decode cX12_isAlive 1 = .ok (.iload_n 1, 1) := by decide +kernel
theorem dX12_isAlive_2 : decode cX12_isAlive 2 = .ok (.iconst 3, 1) := by decide +kernel
theorem dX12_isAlive_3 : decode cX12_isAlive 3 = .ok (.invokevirtual 68, 3) := by decide +kernel
theorem dX12_isAlive_6 : decode cX12_isAlive 6 = .ok (.ifCond .ne 7, 3) := by decide +kernel
theorem dX12_isAlive_9 : decode cX12_isAlive 9 = .ok (.iconst 1, 1) := by decide +kernel
theorem dX12_isAlive_10 : decode cX12_isAlive 10 = .ok (.goto 4, 3) := by decide +kernel
theorem dX12_isAlive_13 : decode cX12_isAlive 13 = .ok (.iconst 0, 1) := by decide +kernel
theorem dX12_isAlive_14 : decode cX12_isAlive 14 = .ok (.ireturn, 1) := by decide +kernel
theorem dX12_hasFailed_0 : decode cX12_hasFailed 0 = .ok (.aload_n 0, 1) := by decide +kernel
theorem dX12_hasFailed_1 : decode cX12_hasFailed 1 = .ok (.getfield 13, 3) := by decide +kernel
theorem dX12_hasFailed_4 : decode cX12_hasFailed 4 = .ok (.bipush 8, 2) := by decide +kernel
theorem dX12_hasFailed_6 : decode cX12_hasFailed 6 = .ok (.iaload, 1) := by decide +kernel
theorem dX12_hasFailed_7 : decode cX12_hasFailed 7 = .ok (.iconst 1, 1) := by decide +kernel
theorem dX12_hasFailed_8 : decode cX12_hasFailed 8 = .ok (.if_icmp .ne 7, 3) := by decide +kernel
theorem dX12_hasFailed_11 : decode cX12_hasFailed 11 = .ok (.iconst 1, 1) := by decide +kernel
theorem dX12_hasFailed_12 : decode cX12_hasFailed 12 = .ok (.goto 4, 3) := by decide +kernel
theorem dX12_hasFailed_15 : decode cX12_hasFailed 15 = .ok (.iconst 0, 1) := by decide +kernel
theorem dX12_hasFailed_16 : decode cX12_hasFailed 16 = .ok (.ireturn, 1) := by decide +kernel
theorem dX12_owedAt_0 : decode cX12_owedAt 0 = .ok (.bipush 116, 2) := by decide +kernel
theorem dX12_owedAt_2 : decode cX12_owedAt 2 = .ok (.bipush 8, 2) := by decide +kernel
theorem dX12_owedAt_4 : decode cX12_owedAt 4 = .ok (.iload_n 0, 1) := by decide +kernel
theorem dX12_owedAt_5 : decode cX12_owedAt 5 = .ok (.imul, 1) := by decide +kernel
theorem dX12_owedAt_6 : decode cX12_owedAt 6 = .ok (.iadd, 1) := by decide +kernel
theorem dX12_owedAt_7 : decode cX12_owedAt 7 = .ok (.iload_n 1, 1) := by decide +kernel
theorem dX12_owedAt_8 : decode cX12_owedAt 8 = .ok (.iadd, 1) := by decide +kernel
theorem dX12_owedAt_9 : decode cX12_owedAt 9 = .ok (.ireturn, 1) := by decide +kernel
theorem dX12_owedBy_0 : decode cX12_owedBy 0 = .ok (.aload_n 0, 1) := by decide +kernel
theorem dX12_owedBy_1 : decode cX12_owedBy 1 = .ok (.getfield 13, 3) := by decide +kernel
theorem dX12_owedBy_4 : decode cX12_owedBy 4 = .ok (.iload_n 1, 1) := by decide +kernel
theorem dX12_owedBy_5 : decode cX12_owedBy 5 = .ok (.iload_n 2, 1) := by decide +kernel
theorem dX12_owedBy_6 : decode cX12_owedBy 6 = .ok (.invokestatic 71, 3) := by decide +kernel
theorem dX12_owedBy_9 : decode cX12_owedBy 9 = .ok (.iaload, 1) := by decide +kernel
theorem dX12_owedBy_10 : decode cX12_owedBy 10 = .ok (.ireturn, 1) := by decide +kernel
theorem dX12_noPerson_0 : decode cX12_noPerson 0 = .ok (.iload_n 1, 1) := by decide +kernel
theorem dX12_noPerson_1 : decode cX12_noPerson 1 = .ok (.iconst 0, 1) := by decide +kernel
theorem dX12_noPerson_2 : decode cX12_noPerson 2 = .ok (.aload_n 0, 1) := by decide +kernel
theorem dX12_noPerson_3 : decode cX12_noPerson 3 = .ok (.invokevirtual 74, 3) := by decide +kernel
theorem dX12_noPerson_6 : decode cX12_noPerson 6 = .ok (.iconst 1, 1) := by decide +kernel
theorem dX12_noPerson_7 : decode cX12_noPerson 7 = .ok (.isub, 1) := by decide +kernel
theorem dX12_noPerson_8 : decode cX12_noPerson 8 = .ok (.invokestatic 78, 3) := by decide +kernel
theorem dX12_noPerson_11 : decode cX12_noPerson 11 = .ok (.ifCond .ne 7, 3) := by decide +kernel
theorem dX12_noPerson_14 : decode cX12_noPerson 14 = .ok (.iconst 1, 1) := by decide +kernel
theorem dX12_noPerson_15 : decode cX12_noPerson 15 = .ok (.goto 4, 3) := by decide +kernel
theorem dX12_noPerson_18 : decode cX12_noPerson 18 = .ok (.iconst 0, 1) := by decide +kernel
theorem dX12_noPerson_19 : decode cX12_noPerson 19 = .ok (.ireturn, 1) := by decide +kernel
theorem dX12_drawn_0 : decode cX12_drawn 0 = .ok (.aload_n 0, 1) := by decide +kernel
theorem dX12_drawn_1 : decode cX12_drawn 1 = .ok (.getfield 13, 3) := by decide +kernel
theorem dX12_drawn_4 : decode cX12_drawn 4 = .ok (.bipush 11, 2) := by decide +kernel
theorem dX12_drawn_6 : decode cX12_drawn 6 = .ok (.ldc 82, 2) := by decide +kernel
theorem dX12_drawn_8 : decode cX12_drawn 8 = .ok (.aload_n 0, 1) := by decide +kernel
theorem dX12_drawn_9 : decode cX12_drawn 9 = .ok (.getfield 13, 3) := by decide +kernel
theorem dX12_drawn_12 : decode cX12_drawn 12 = .ok (.bipush 11, 2) := by decide +kernel
theorem dX12_drawn_14 : decode cX12_drawn 14 = .ok (.iaload, 1) := by decide +kernel
theorem dX12_drawn_15 : decode cX12_drawn 15 = .ok (.imul, 1) := by decide +kernel
theorem dX12_drawn_16 : decode cX12_drawn 16 = .ok (.sipush 12345, 3) := by decide +kernel
theorem dX12_drawn_19 : decode cX12_drawn 19 = .ok (.iadd, 1) := by decide +kernel
theorem dX12_drawn_20 : decode cX12_drawn 20 = .ok (.iastore, 1) := by decide +kernel
theorem dX12_drawn_21 : decode cX12_drawn 21 = .ok (.aload_n 0, 1) := by decide +kernel
theorem dX12_drawn_22 : decode cX12_drawn 22 = .ok (.getfield 13, 3) := by decide +kernel
theorem dX12_drawn_25 : decode cX12_drawn 25 = .ok (.bipush 11, 2) := by decide +kernel
theorem dX12_drawn_27 : decode cX12_drawn 27 = .ok (.iaload, 1) := by decide +kernel
theorem dX12_drawn_28 : decode cX12_drawn 28 = .ok (.bipush 16, 2) := by decide +kernel
theorem dX12_drawn_30 : decode cX12_drawn 30 = .ok (.ishr, 1) := by decide +kernel
theorem dX12_drawn_31 : decode cX12_drawn 31 = .ok (.sipush 32767, 3) := by decide +kernel
theorem dX12_drawn_34 : decode cX12_drawn 34 = .ok (.iand, 1) := by decide +kernel
theorem dX12_drawn_35 : decode cX12_drawn 35 = .ok (.iload_n 1, 1) := by decide +kernel
theorem dX12_drawn_36 : decode cX12_drawn 36 = .ok (.irem, 1) := by decide +kernel
theorem dX12_drawn_37 : decode cX12_drawn 37 = .ok (.ireturn, 1) := by decide +kernel
theorem dX12_feed_0 : decode cX12_feed 0 = .ok (.aload_n 0, 1) := by decide +kernel
theorem dX12_feed_1 : decode cX12_feed 1 = .ok (.iconst 0, 1) := by decide +kernel
theorem dX12_feed_2 : decode cX12_feed 2 = .ok (.putfield 3, 3) := by decide +kernel
theorem dX12_feed_5 : decode cX12_feed 5 = .ok (.aload_n 0, 1) := by decide +kernel
theorem dX12_feed_6 : decode cX12_feed 6 = .ok (.getfield 83, 3) := by decide +kernel
theorem dX12_feed_9 : decode cX12_feed 9 = .ok (.bipush 20, 2) := by decide +kernel
theorem dX12_feed_11 : decode cX12_feed 11 = .ok (.iadd, 1) := by decide +kernel
theorem dX12_feed_12 : decode cX12_feed 12 = .ok (.sipush 400, 3) := by decide +kernel
theorem dX12_feed_15 : decode cX12_feed 15 = .ok (.if_icmp .le 5, 3) := by decide +kernel
theorem dX12_feed_18 : decode cX12_feed 18 = .ok (.iconst (-1), 1) := by decide +kernel
theorem dX12_feed_19 : decode cX12_feed 19 = .ok (.ireturn, 1) := by decide +kernel
theorem dX12_feed_20 : decode cX12_feed 20 = .ok (.aload_n 0, 1) := by decide +kernel
theorem dX12_feed_21 : decode cX12_feed 21 = .ok (.getfield 36, 3) := by decide +kernel
theorem dX12_feed_24 : decode cX12_feed 24 = .ok (.iconst 0, 1) := by decide +kernel
theorem dX12_feed_25 : decode cX12_feed 25 = .ok (.iload_n 1, 1) := by decide +kernel
theorem dX12_feed_26 : decode cX12_feed 26 = .ok (.iastore, 1) := by decide +kernel
theorem dX12_feed_27 : decode cX12_feed 27 = .ok (.aload_n 0, 1) := by decide +kernel
theorem dX12_feed_28 : decode cX12_feed 28 = .ok (.getfield 36, 3) := by decide +kernel
theorem dX12_feed_31 : decode cX12_feed 31 = .ok (.iconst 1, 1) := by decide +kernel
theorem dX12_feed_32 : decode cX12_feed 32 = .ok (.iload_n 2, 1) := by decide +kernel
theorem dX12_feed_33 : decode cX12_feed 33 = .ok (.iastore, 1) := by decide +kernel
theorem dX12_feed_34 : decode cX12_feed 34 = .ok (.aload_n 0, 1) := by decide +kernel
theorem dX12_feed_35 : decode cX12_feed 35 = .ok (.getfield 36, 3) := by decide +kernel
theorem dX12_feed_38 : decode cX12_feed 38 = .ok (.iconst 2, 1) := by decide +kernel
theorem dX12_feed_39 : decode cX12_feed 39 = .ok (.iload_n 3, 1) := by decide +kernel
theorem dX12_feed_40 : decode cX12_feed 40 = .ok (.iastore, 1) := by decide +kernel
theorem dX12_feed_41 : decode cX12_feed 41 = .ok (.aload_n 0, 1) := by decide +kernel
theorem dX12_feed_42 : decode cX12_feed 42 = .ok (.getfield 36, 3) := by decide +kernel
theorem dX12_feed_45 : decode cX12_feed 45 = .ok (.iconst 3, 1) := by decide +kernel
theorem dX12_feed_46 : decode cX12_feed 46 = .ok (.iload 4, 2) := by decide +kernel
theorem dX12_feed_48 : decode cX12_feed 48 = .ok (.iastore, 1) := by decide +kernel
theorem dX12_feed_49 : decode cX12_feed 49 = .ok (.aload_n 0, 1) := by decide +kernel
theorem dX12_feed_50 : decode cX12_feed 50 = .ok (.getfield 36, 3) := by decide +kernel
theorem dX12_feed_53 : decode cX12_feed 53 = .ok (.iconst 4, 1) := by decide +kernel
theorem dX12_feed_54 : decode cX12_feed 54 = .ok (.iload 5, 2) := by decide +kernel
theorem dX12_feed_56 : decode cX12_feed 56 = .ok (.iastore, 1) := by decide +kernel
theorem dX12_feed_57 : decode cX12_feed 57 = .ok (.iconst 0, 1) := by decide +kernel
theorem dX12_feed_58 : decode cX12_feed 58 = .ok (.istore 6, 2) := by decide +kernel
theorem dX12_feed_60 : decode cX12_feed 60 = .ok (.iload 6, 2) := by decide +kernel
theorem dX12_feed_62 : decode cX12_feed 62 = .ok (.bipush 20, 2) := by decide +kernel
theorem dX12_feed_64 : decode cX12_feed 64 = .ok (.if_icmp .ge 42, 3) := by decide +kernel
theorem dX12_feed_67 : decode cX12_feed 67 = .ok (.aload_n 0, 1) := by decide +kernel
theorem dX12_feed_68 : decode cX12_feed 68 = .ok (.getfield 29, 3) := by decide +kernel
theorem dX12_feed_71 : decode cX12_feed 71 = .ok (.aload_n 0, 1) := by decide +kernel
theorem dX12_feed_72 : decode cX12_feed 72 = .ok (.getfield 83, 3) := by decide +kernel
theorem dX12_feed_75 : decode cX12_feed 75 = .ok (.iload 6, 2) := by decide +kernel
theorem dX12_feed_77 : decode cX12_feed 77 = .ok (.iadd, 1) := by decide +kernel
theorem dX12_feed_78 : decode cX12_feed 78 = .ok (.aload_n 0, 1) := by decide +kernel
theorem dX12_feed_79 : decode cX12_feed 79 = .ok (.getfield 36, 3) := by decide +kernel
theorem dX12_feed_82 : decode cX12_feed 82 = .ok (.iload 6, 2) := by decide +kernel
theorem dX12_feed_84 : decode cX12_feed 84 = .ok (.iconst 4, 1) := by decide +kernel
theorem dX12_feed_85 : decode cX12_feed 85 = .ok (.idiv, 1) := by decide +kernel
theorem dX12_feed_86 : decode cX12_feed 86 = .ok (.iaload, 1) := by decide +kernel
