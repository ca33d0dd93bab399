theorem dX12_owe_87 : decode cX12_owe 87 = .ok (.ifCond .eq 5, 3) := by decide +kernel
theorem dX12_owe_90 : decode cX12_owe 90 = .ok (.iconst 0, 1) := by decide +kernel
theorem dX12_owe_91 : decode cX12_owe 91 = .ok (.ireturn, 1) := by decide +kernel
theorem dX12_owe_92 : decode cX12_owe 92 = .ok (.aload_n 0, 1) := by decide +kernel
theorem dX12_owe_93 : decode cX12_owe 93 = .ok (.invokevirtual 356, 3) := by decide +kernel
theorem dX12_owe_96 : decode cX12_owe 96 = .ok (.aload_n 0, 1) := by decide +kernel
theorem dX12_owe_97 : decode cX12_owe 97 = .ok (.getfield 13, 3) := by decide +kernel
theorem dX12_owe_100 : decode cX12_owe 100 = .ok (.iload_n 1, 1) := by decide +kernel
theorem dX12_owe_101 : decode cX12_owe 101 = .ok (.iload_n 2, 1) := by decide +kernel
theorem dX12_owe_102 : decode cX12_owe 102 = .ok (.invokestatic 71, 3) := by decide +kernel
theorem dX12_owe_105 : decode cX12_owe 105 = .ok (.dup2, 1) := by decide +kernel
theorem dX12_owe_106 : decode cX12_owe 106 = .ok (.iaload, 1) := by decide +kernel
theorem dX12_owe_107 : decode cX12_owe 107 = .ok (.iload_n 3, 1) := by decide +kernel
theorem dX12_owe_108 : decode cX12_owe 108 = .ok (.iadd, 1) := by decide +kernel
theorem dX12_owe_109 : decode cX12_owe 109 = .ok (.iastore, 1) := by decide +kernel
theorem dX12_owe_110 : decode cX12_owe 110 = .ok (.aload_n 0, 1) := by decide +kernel
theorem dX12_owe_111 : decode cX12_owe 111 = .ok (.iload_n 1, 1) := by decide +kernel
theorem dX12_owe_112 : decode cX12_owe 112 = .ok (.iload_n 2, 1) := by decide +kernel
theorem dX12_owe_113 : decode cX12_owe 113 = .ok (.invokevirtual 329, 3) := by decide +kernel
theorem dX12_owe_116 : decode cX12_owe 116 = .ok (.ireturn, 1) := by decide +kernel
theorem dX12_laysNets_0 : decode cX12_laysNets 0 = .ok (.iconst 0, 1) := by decide +kernel
theorem dX12_laysNets_1 : decode cX12_laysNets 1 = .ok (.istore_n 1, 1) := by decide +kernel
theorem dX12_laysNets_2 : decode cX12_laysNets 2 = .ok (.iload_n 1, 1) := by decide +kernel
theorem dX12_laysNets_3 : decode cX12_laysNets 3 = .ok (.aload_n 0, 1) := by decide +kernel
theorem dX12_laysNets_4 : decode cX12_laysNets 4 = .ok (.invokevirtual 74, 3) := by decide +kernel
theorem dX12_laysNets_7 : decode cX12_laysNets 7 = .ok (.if_icmp .ge 20, 3) := by decide +kernel
theorem dX12_laysNets_10 : decode cX12_laysNets 10 = .ok (.aload_n 0, 1) := by decide +kernel
theorem dX12_laysNets_11 : decode cX12_laysNets 11 = .ok (.getfield 51, 3) := by decide +kernel
theorem dX12_laysNets_14 : decode cX12_laysNets 14 = .ok (.iload_n 1, 1) := by decide +kernel
theorem dX12_laysNets_15 : decode cX12_laysNets 15 = .ok (.aload_n 0, 1) := by decide +kernel
theorem dX12_laysNets_16 : decode cX12_laysNets 16 = .ok (.iload_n 1, 1) := by decide +kernel
theorem dX12_laysNets_17 : decode cX12_laysNets 17 = .ok (.invokevirtual 338, 3) := by decide +kernel
theorem dX12_laysNets_20 : decode cX12_laysNets 20 = .ok (.iastore, 1) := by decide +kernel
theorem dX12_laysNets_21 : decode cX12_laysNets 21 = .ok (.iinc 1 1, 3) := by decide +kernel
theorem dX12_laysNets_24 : decode cX12_laysNets 24 = .ok (.goto (-22), 3) := by decide +kernel
theorem dX12_laysNets_27 : decode cX12_laysNets 27 = .ok (.return_, 1) := by decide +kernel
theorem dX12_net_0 : decode cX12_net 0 = .ok (.aload_n 0, 1) := by decide +kernel
theorem dX12_net_1 : decode cX12_net 1 = .ok (.iconst 0, 1) := by decide +kernel
theorem dX12_net_2 : decode cX12_net 2 = .ok (.putfield 3, 3) := by decide +kernel
theorem dX12_net_5 : decode cX12_net 5 = .ok (.aload_n 0, 1) := by decide +kernel
theorem dX12_net_6 : decode cX12_net 6 = .ok (.invokevirtual 356, 3) := by decide +kernel
theorem dX12_net_9 : decode cX12_net 9 = .ok (.aload_n 0, 1) := by decide +kernel
theorem dX12_net_10 : decode cX12_net 10 = .ok (.invokevirtual 359, 3) := by decide +kernel
theorem dX12_net_13 : decode cX12_net 13 = .ok (.iconst 0, 1) := by decide +kernel
theorem dX12_net_14 : decode cX12_net 14 = .ok (.istore_n 1, 1) := by decide +kernel
theorem dX12_net_15 : decode cX12_net 15 = .ok (.iload_n 1, 1) := by decide +kernel
theorem dX12_net_16 : decode cX12_net 16 = .ok (.bipush 64, 2) := by decide +kernel
theorem dX12_net_18 : decode cX12_net 18 = .ok (.if_icmp .ge 19, 3) := by decide +kernel
theorem dX12_net_21 : decode cX12_net 21 = .ok (.aload_n 0, 1) := by decide +kernel
theorem dX12_net_22 : decode cX12_net 22 = .ok (.getfield 13, 3) := by decide +kernel
theorem dX12_net_25 : decode cX12_net 25 = .ok (.bipush 116, 2) := by decide +kernel
theorem dX12_net_27 : decode cX12_net 27 = .ok (.iload_n 1, 1) := by decide +kernel
theorem dX12_net_28 : decode cX12_net 28 = .ok (.iadd, 1) := by decide +kernel
theorem dX12_net_29 : decode cX12_net 29 = .ok (.iconst 0, 1) := by decide +kernel
theorem dX12_net_30 : decode cX12_net 30 = .ok (.iastore, 1) := by decide +kernel
theorem dX12_net_31 : decode cX12_net 31 = .ok (.iinc 1 1, 3) := by decide +kernel
theorem dX12_net_34 : decode cX12_net 34 = .ok (.goto (-19), 3) := by decide +kernel
theorem dX12_net_37 : decode cX12_net 37 = .ok (.iconst 0, 1) := by decide +kernel
theorem dX12_net_38 : decode cX12_net 38 = .ok (.istore_n 1, 1) := by decide +kernel
theorem dX12_net_39 : decode cX12_net 39 = .ok (.aload_n 0, 1) := by decide +kernel
theorem dX12_net_40 : decode cX12_net 40 = .ok (.invokevirtual 74, 3) := by decide +kernel
theorem dX12_net_43 : decode cX12_net 43 = .ok (.ifCond .le 7, 3) := by decide +kernel
theorem dX12_net_46 : decode cX12_net 46 = .ok (.iconst 1, 1) := by decide +kernel
theorem dX12_net_47 : decode cX12_net 47 = .ok (.goto 4, 3) := by decide +kernel
theorem dX12_net_50 : decode cX12_net 50 = .ok (.iconst 0, 1) := by decide +kernel
theorem dX12_net_51 : decode cX12_net 51 = .ok (.istore_n 2, 1) := by decide +kernel
theorem dX12_net_52 : decode cX12_net 52 = .ok (.iload_n 2, 1) := by decide +kernel
theorem dX12_net_53 : decode cX12_net 53 = .ok (.ifCond .eq 154, 3) := by decide +kernel
theorem dX12_net_56 : decode cX12_net 56 = .ok (.iconst 0, 1) := by decide +kernel
theorem dX12_net_57 : decode cX12_net 57 = .ok (.istore_n 3, 1) := by decide +kernel
theorem dX12_net_58 : decode cX12_net 58 = .ok (.iconst 0, 1) := by decide +kernel
theorem dX12_net_59 : decode cX12_net 59 = .ok (.istore 4, 2) := by decide +kernel
theorem dX12_net_61 : decode cX12_net 61 = .ok (.iconst 1, 1) := by decide +kernel
theorem dX12_net_62 : decode cX12_net 62 = .ok (.istore 5, 2) := by decide +kernel
theorem dX12_net_64 : decode cX12_net 64 = .ok (.iload 5, 2) := by decide +kernel
theorem dX12_net_66 : decode cX12_net 66 = .ok (.aload_n 0, 1) := by decide +kernel
theorem dX12_net_67 : decode cX12_net 67 = .ok (.invokevirtual 74, 3) := by decide +kernel
theorem dX12_net_70 : decode cX12_net 70 = .ok (.if_icmp .ge 58, 3) := by decide +kernel
theorem dX12_net_73 : decode cX12_net 73 = .ok (.aload_n 0, 1) := by decide +kernel
theorem dX12_net_74 : decode cX12_net 74 = .ok (.getfield 51, 3) := by decide +kernel
theorem dX12_net_77 : decode cX12_net 77 = .ok (.iload 5, 2) := by decide +kernel
theorem dX12_net_79 : decode cX12_net 79 = .ok (.iaload, 1) := by decide +kernel
theorem dX12_net_80 : decode cX12_net 80 = .ok (.aload_n 0, 1) := by decide +kernel
theorem dX12_net_81 : decode cX12_net 81 = .ok (.getfield 51, 3) := by decide +kernel
theorem dX12_net_84 : decode cX12_net 84 = .ok (.iload_n 3, 1) := by decide +kernel
theorem dX12_net_85 : decode cX12_net 85 = .ok (.iaload, 1) := by decide +kernel
theorem dX12_net_86 : decode cX12_net 86 = .ok (.if_icmp .ge 8, 3) := by decide +kernel
theorem dX12_net_89 : decode cX12_net 89 = .ok (.iload 5, 2) := by decide +kernel
theorem dX12_net_91 : decode cX12_net 91 = .ok (.goto 4, 3) := by decide +kernel
theorem dX12_net_94 : decode cX12_net 94 = .ok (.iload_n 3, 1) := by decide +kernel
theorem dX12_net_95 : decode cX12_net 95 = .ok (.istore_n 3, 1) := by decide +kernel
theorem dX12_net_96 : decode cX12_net 96 = .ok (.aload_n 0, 1) := by decide +kernel
theorem dX12_net_97 : decode cX12_net 97 = .ok (.getfield 51, 3) := by decide +kernel
theorem dX12_net_100 : decode cX12_net 100 = .ok (.iload 5, 2) := by decide +kernel
theorem dX12_net_102 : decode cX12_net 102 = .ok (.iaload, 1) := by decide +kernel
theorem dX12_net_103 : decode cX12_net 103 = .ok (.aload_n 0, 1) := by decide +kernel
theorem dX12_net_104 : decode cX12_net 104 = .ok (.getfield 51, 3) := by decide +kernel
theorem dX12_net_107 : decode cX12_net 107 = .ok (.iload 4, 2) := by decide +kernel
theorem dX12_net_109 : decode cX12_net 109 = .ok (.iaload, 1) := by decide +kernel
theorem dX12_net_110 : decode cX12_net 110 = .ok (.if_icmp .le 8, 3) := by decide +kernel
theorem dX12_net_113 : decode cX12_net 113 = .ok (.iload 5, 2) := by decide +kernel
theorem dX12_net_115 : decode cX12_net 115 = .ok (.goto 5, 3) := by decide +kernel
theorem dX12_net_118 : decode cX12_net 118 = .ok (.iload 4, 2) := by decide +kernel
theorem dX12_net_120 : decode cX12_net 120 = .ok (.istore 4, 2) := by decide +kernel
theorem dX12_net_122 : decode cX12_net 122 = .ok (.iinc 5 1, 3) := by decide +kernel
theorem dX12_net_125 : decode cX12_net 125 = .ok (.goto (-61), 3) := by decide +kernel
theorem dX12_net_128 : decode cX12_net 128 = .ok (.aload_n 0, 1) := by decide +kernel
theorem dX12_net_129 : decode cX12_net 129 = .ok (.getfield 51, 3) := by decide +kernel
theorem dX12_net_132 : decode cX12_net 132 = .ok (.iload_n 3, 1) := by decide +kernel
theorem dX12_net_133 : decode cX12_net 133 = .ok (.iaload, 1) := by decide +kernel
theorem dX12_net_134 : decode cX12_net 134 = .ok (.ineg, 1) := by decide +kernel
theorem dX12_net_135 : decode cX12_net 135 = .ok (.aload_n 0, 1) := by decide +kernel
theorem dX12_net_136 : decode cX12_net 136 = .ok (.getfield 51, 3) := by decide +kernel
theorem dX12_net_139 : decode cX12_net 139 = .ok (.iload 4, 2) := by decide +kernel
theorem dX12_net_141 : decode cX12_net 141 = .ok (.iaload, 1) := by decide +kernel
theorem dX12_net_142 : decode cX12_net 142 = .ok (.invokestatic 275, 3) := by decide +kernel
theorem dX12_net_145 : decode cX12_net 145 = .ok (.istore 5, 2) := by decide +kernel
theorem dX12_net_147 : decode cX12_net 147 = .ok (.iload 5, 2) := by decide +kernel
theorem dX12_net_149 : decode cX12_net 149 = .ok (.ifCond .le 7, 3) := by decide +kernel
theorem dX12_net_152 : decode cX12_net 152 = .ok (.iconst 1, 1) := by decide +kernel
theorem dX12_net_153 : decode cX12_net 153 = .ok (.goto 4, 3) := by decide +kernel
theorem dX12_net_156 : decode cX12_net 156 = .ok (.iconst 0, 1) := by decide +kernel
theorem dX12_net_157 : decode cX12_net 157 = .ok (.istore_n 2, 1) := by decide +kernel
theorem dX12_net_158 : decode cX12_net 158 = .ok (.iload_n 2, 1) := by decide +kernel
theorem dX12_net_159 : decode cX12_net 159 = .ok (.ifCond .ne 6, 3) := by decide +kernel
theorem dX12_net_162 : decode cX12_net 162 = .ok (.goto (-110), 3) := by decide +kernel
theorem dX12_net_165 : decode cX12_net 165 = .ok (.aload_n 0, 1) := by decide +kernel
theorem dX12_net_166 : decode cX12_net 166 = .ok (.getfield 51, 3) := by decide +kernel
theorem dX12_net_169 : decode cX12_net 169 = .ok (.iload_n 3, 1) := by decide +kernel
theorem dX12_net_170 : decode cX12_net 170 = .ok (.dup2, 1) := by decide +kernel
theorem dX12_net_171 : decode cX12_net 171 = .ok (.iaload, 1) := by decide +kernel
theorem dX12_net_172 : decode cX12_net 172 = .ok (.iload 5, 2) := by decide +kernel
theorem dX12_net_174 : decode cX12_net 174 = .ok (.iadd, 1) := by decide +kernel
theorem dX12_net_175 : decode cX12_net 175 = .ok (.iastore, 1) := by decide +kernel
theorem dX12_net_176 : decode cX12_net 176 = .ok (.aload_n 0, 1) := by decide +kernel
theorem dX12_net_177 : decode cX12_net 177 = .ok (.getfield 51, 3) := by decide +kernel
theorem dX12_net_180 : decode cX12_net 180 = .ok (.iload 4, 2) := by decide +kernel
theorem dX12_net_182 : decode cX12_net 182 = .ok (.dup2, 1) := by decide +kernel
theorem dX12_net_183 : decode cX12_net 183 = .ok (.iaload, 1) := by decide +kernel
theorem dX12_net_184 : decode cX12_net 184 = .ok (.iload 5, 2) := by decide +kernel
theorem dX12_net_186 : decode cX12_net 186 = .ok (.isub, 1) := by decide +kernel
theorem dX12_net_187 : decode cX12_net 187 = .ok (.iastore, 1) := by decide +kernel
theorem dX12_net_188 : decode cX12_net 188 = .ok (.aload_n 0, 1) := by decide +kernel
theorem dX12_net_189 : decode cX12_net 189 = .ok (.getfield 13, 3) := by decide +kernel
theorem dX12_net_192 : decode cX12_net 192 = .ok (.iload_n 3, 1) := by decide +kernel
theorem dX12_net_193 : decode cX12_net 193 = .ok (.iload 4, 2) := by decide +kernel
theorem dX12_net_195 : decode cX12_net 195 = .ok (.invokestatic 71, 3) := by decide +kernel
theorem dX12_net_198 : decode cX12_net 198 = .ok (.iload 5, 2) := by decide +kernel
theorem dX12_net_200 : decode cX12_net 200 = .ok (.iastore, 1) := by decide +kernel
theorem dX12_net_201 : decode cX12_net 201 = .ok (.iinc 1 1, 3) := by decide +kernel
theorem dX12_net_204 : decode cX12_net 204 = .ok (.goto (-152), 3) := by decide +kernel
theorem dX12_net_207 : decode cX12_net 207 = .ok (.iload_n 1, 1) := by decide +kernel
theorem dX12_net_208 : decode cX12_net 208 = .ok (.ireturn, 1) := by decide +kernel
theorem dX12_die_0 : decode cX12_die 0 = .ok (.aload_n 0, 1) := by decide +kernel
theorem dX12_die_1 : decode cX12_die 1 = .ok (.iconst 0, 1) := by decide +kernel
theorem dX12_die_2 : decode cX12_die 2 = .ok (.putfield 3, 3) := by decide +kernel
theorem dX12_die_5 : decode cX12_die 5 = .ok (.aload_n 0, 1) := by decide +kernel
theorem dX12_die_6 : decode cX12_die 6 = .ok (.aload_n 0, 1) := by decide +kernel
theorem dX12_die_7 : decode cX12_die 7 = .ok (.iload_n 1, 1) := by decide +kernel
theorem dX12_die_8 : decode cX12_die 8 = .ok (.invokevirtual 335, 3) := by decide +kernel
theorem dX12_die_11 : decode cX12_die 11 = .ok (.iconst 1, 1) := by decide +kernel
theorem dX12_die_12 : decode cX12_die 12 = .ok (.invokevirtual 253, 3) := by decide +kernel
theorem dX12_die_15 : decode cX12_die 15 = .ok (.ifCond .ne 24, 3) := by decide +kernel
theorem dX12_die_18 : decode cX12_die 18 = .ok (.aload_n 0, 1) := by decide +kernel
theorem dX12_die_19 : decode cX12_die 19 = .ok (.aload_n 0, 1) := by decide +kernel
theorem dX12_die_20 : decode cX12_die 20 = .ok (.iload_n 1, 1) := by decide +kernel
theorem dX12_die_21 : decode cX12_die 21 = .ok (.invokevirtual 296, 3) := by decide +kernel
theorem dX12_die_24 : decode cX12_die 24 = .ok (.ifCond .ne 7, 3) := by decide +kernel
theorem dX12_die_27 : decode cX12_die 27 = .ok (.iconst 1, 1) := by decide +kernel
theorem dX12_die_28 : decode cX12_die 28 = .ok (.goto 4, 3) := by decide +kernel
theorem dX12_die_31 : decode cX12_die 31 = .ok (.iconst 0, 1) := by decide +kernel
theorem dX12_die_32 : decode cX12_die 32 = .ok (.iconst 2, 1) := by decide +kernel
theorem dX12_die_33 : decode cX12_die 33 = .ok (.invokevirtual 253, 3) := by decide +kernel
theorem dX12_die_36 : decode cX12_die 36 = .ok (.ifCond .eq 5, 3) := by decide +kernel
theorem dX12_die_39 : decode cX12_die 39 = .ok (.iconst 0, 1) := by decide +kernel
theorem dX12_die_40 : decode cX12_die 40 = .ok (.ireturn, 1) := by decide +kernel
theorem dX12_die_41 : decode cX12_die 41 = .ok (.aload_n 0, 1) := by decide +kernel
theorem dX12_die_42 : decode cX12_die 42 = .ok (.invokevirtual 356, 3) := by decide +kernel
theorem dX12_die_45 : decode cX12_die 45 = .ok (.aload_n 0, 1) := by decide +kernel
theorem dX12_die_46 : decode cX12_die 46 = .ok (.iload_n 1, 1) := by decide +kernel
theorem dX12_die_47 : decode cX12_die 47 = .ok (.iconst 4, 1) := by decide +kernel
theorem dX12_die_48 : decode cX12_die 48 = .ok (.invokevirtual 68, 3) := by decide +kernel
theorem dX12_die_51 : decode cX12_die 51 = .ok (.istore_n 2, 1) := by decide +kernel
theorem dX12_die_52 : decode cX12_die 52 = .ok (.iload_n 2, 1) := by decide +kernel
theorem dX12_die_53 : decode cX12_die 53 = .ok (.ifCond .lt 15, 3) := by decide +kernel
theorem dX12_die_56 : decode cX12_die 56 = .ok (.aload_n 0, 1) := by decide +kernel
theorem dX12_die_57 : decode cX12_die 57 = .ok (.iload_n 2, 1) := by decide +kernel
theorem dX12_die_58 : decode cX12_die 58 = .ok (.invokevirtual 296, 3) := by decide +kernel
theorem dX12_die_61 : decode cX12_die 61 = .ok (.ifCond .eq 7, 3) := by decide +kernel
theorem dX12_die_64 : decode cX12_die 64 = .ok (.iload_n 2, 1) := by decide +kernel
theorem dX12_die_65 : decode cX12_die 65 = .ok (.goto 4, 3) := by decide +kernel
theorem dX12_die_68 : decode cX12_die 68 = .ok (.iconst (-1), 1) := by decide +kernel
theorem dX12_die_69 : decode cX12_die 69 = .ok (.istore_n 2, 1) := by decide +kernel
theorem dX12_die_70 : decode cX12_die 70 = .ok (.iload_n 2, 1) := by decide +kernel
theorem dX12_die_71 : decode cX12_die 71 = .ok (.ifCond .lt 63, 3) := by decide +kernel
theorem dX12_die_74 : decode cX12_die 74 = .ok (.aload_n 0, 1) := by decide +kernel
theorem dX12_die_75 : decode cX12_die 75 = .ok (.getfield 13, 3) := by decide +kernel
theorem dX12_die_78 : decode cX12_die 78 = .ok (.iload_n 2, 1) := by decide +kernel
theorem dX12_die_79 : decode cX12_die 79 = .ok (.iconst 1, 1) := by decide +kernel
theorem dX12_die_80 : decode cX12_die 80 = .ok (.invokestatic 64, 3) := by decide +kernel
theorem dX12_die_83 : decode cX12_die 83 = .ok (.ldc 140, 2) := by decide +kernel
theorem dX12_die_85 : decode cX12_die 85 = .ok (.aload_n 0, 1) := by decide +kernel
theorem dX12_die_86 : decode cX12_die 86 = .ok (.iload_n 2, 1) := by decide +kernel
theorem dX12_die_87 : decode cX12_die 87 = .ok (.iconst 1, 1) := by decide +kernel
theorem dX12_die_88 : decode cX12_die 88 = .ok (.invokevirtual 68, 3) := by decide +kernel
theorem dX12_die_91 : decode cX12_die 91 = .ok (.aload_n 0, 1) := by decide +kernel
theorem dX12_die_92 : decode cX12_die 92 = .ok (.iload_n 1, 1) := by decide +kernel
theorem dX12_die_93 : decode cX12_die 93 = .ok (.iconst 1, 1) := by decide +kernel
theorem dX12_die_94 : decode cX12_die 94 = .ok (.invokevirtual 68, 3) := by decide +kernel
theorem dX12_die_97 : decode cX12_die 97 = .ok (.iadd, 1) := by decide +kernel
theorem dX12_die_98 : decode cX12_die 98 = .ok (.invokestatic 275, 3) := by decide +kernel
theorem dX12_die_101 : decode cX12_die 101 = .ok (.iastore, 1) := by decide +kernel
theorem dX12_die_102 : decode cX12_die 102 = .ok (.aload_n 0, 1) := by decide +kernel
theorem dX12_die_103 : decode cX12_die 103 = .ok (.getfield 13, 3) := by decide +kernel
theorem dX12_die_106 : decode cX12_die 106 = .ok (.iload_n 2, 1) := by decide +kernel
theorem dX12_die_107 : decode cX12_die 107 = .ok (.iconst 2, 1) := by decide +kernel
theorem dX12_die_108 : decode cX12_die 108 = .ok (.invokestatic 64, 3) := by decide +kernel
theorem dX12_die_111 : decode cX12_die 111 = .ok (.aload_n 0, 1) := by decide +kernel
theorem dX12_die_112 : decode cX12_die 112 = .ok (.iload_n 2, 1) := by decide +kernel
theorem dX12_die_113 : decode cX12_die 113 = .ok (.iconst 1, 1) := by decide +kernel
theorem dX12_die_114 : decode cX12_die 114 = .ok (.invokevirtual 68, 3) := by decide +kernel
theorem dX12_die_117 : decode cX12_die 117 = .ok (.aload_n 0, 1) := by decide +kernel
theorem dX12_die_118 : decode cX12_die 118 = .ok (.iload_n 2, 1) := by decide +kernel
theorem dX12_die_119 : decode cX12_die 119 = .ok (.iconst 2, 1) := by decide +kernel
theorem dX12_die_120 : decode cX12_die 120 = .ok (.invokevirtual 68, 3) := by decide +kernel
theorem dX12_die_123 : decode cX12_die 123 = .ok (.aload_n 0, 1) := by decide +kernel
theorem dX12_die_124 : decode cX12_die 124 = .ok (.iload_n 1, 1) := by decide +kernel
theorem dX12_die_125 : decode cX12_die 125 = .ok (.iconst 2, 1) := by decide +kernel
theorem dX12_die_126 : decode cX12_die 126 = .ok (.invokevirtual 68, 3) := by decide +kernel
theorem dX12_die_129 : decode cX12_die 129 = .ok (.iadd, 1) := by decide +kernel
theorem dX12_die_130 : decode cX12_die 130 = .ok (.invokestatic 275, 3) := by decide +kernel
theorem dX12_die_133 : decode cX12_die 133 = .ok (.iastore, 1) := by decide +kernel
theorem dX12_die_134 : decode cX12_die 134 = .ok (.aload_n 0, 1) := by decide +kernel
theorem dX12_die_135 : decode cX12_die 135 = .ok (.getfield 13, 3) := by decide +kernel
theorem dX12_die_138 : decode cX12_die 138 = .ok (.iload_n 1, 1) := by decide +kernel
theorem dX12_die_139 : decode cX12_die 139 = .ok (.iconst 1, 1) := by decide +kernel
theorem dX12_die_140 : decode cX12_die 140 = .ok (.invokestatic 64, 3) := by decide +kernel
theorem dX12_die_143 : decode cX12_die 143 = .ok (.iconst 0, 1) := by decide +kernel
theorem dX12_die_144 : decode cX12_die 144 = .ok (.iastore, 1) := by decide +kernel
theorem dX12_die_145 : decode cX12_die 145 = .ok (.aload_n 0, 1) := by decide +kernel
theorem dX12_die_146 : decode cX12_die 146 = .ok (.getfield 13, 3) := by decide +kernel
theorem dX12_die_149 : decode cX12_die 149 = .ok (.iload_n 1, 1) := by decide +kernel
theorem dX12_die_150 : decode cX12_die 150 = .ok (.iconst 2, 1) := by decide +kernel
theorem dX12_die_151 : decode cX12_die 151 = .ok (.invokestatic 64, 3) := by decide +kernel
theorem dX12_die_154 : decode cX12_die 154 = .ok (.iconst 0, 1) := by decide +kernel
theorem dX12_die_155 : decode cX12_die 155 = .ok (.iastore, 1) := by decide +kernel
theorem dX12_die_156 : decode cX12_die 156 = .ok (.aload_n 0, 1) := by decide +kernel
theorem dX12_die_157 : decode cX12_die 157 = .ok (.getfield 13, 3) := by decide +kernel
theorem dX12_die_160 : decode cX12_die 160 = .ok (.iload_n 1, 1) := by decide +kernel
theorem dX12_die_161 : decode cX12_die 161 = .ok (.iconst 3, 1) := by decide +kernel
theorem dX12_die_162 : decode cX12_die 162 = .ok (.invokestatic 64, 3) := by decide +kernel
theorem dX12_die_165 : decode cX12_die 165 = .ok (.iconst 1, 1) := by decide +kernel
theorem dX12_die_166 : decode cX12_die 166 = .ok (.iastore, 1) := by decide +kernel
theorem dX12_die_167 : decode cX12_die 167 = .ok (.iload_n 2, 1) := by decide +kernel
theorem dX12_die_168 : decode cX12_die 168 = .ok (.ireturn, 1) := by decide +kernel
theorem dX12_hear_0 : decode cX12_hear 0 = .ok (.aload_n 0, 1) := by decide +kernel
theorem dX12_hear_1 : decode cX12_hear 1 = .ok (.iconst 0, 1) := by decide +kernel
theorem dX12_hear_2 : decode cX12_hear 2 = .ok (.putfield 3, 3) := by decide +kernel
theorem dX12_hear_5 : decode cX12_hear 5 = .ok (.aload_n 0, 1) := by decide +kernel
theorem dX12_hear_6 : decode cX12_hear 6 = .ok (.aload_n 0, 1) := by decide +kernel
theorem dX12_hear_7 : decode cX12_hear 7 = .ok (.iload_n 1, 1) := by decide +kernel
theorem dX12_hear_8 : decode cX12_hear 8 = .ok (.invokevirtual 335, 3) := by decide +kernel
theorem dX12_hear_11 : decode cX12_hear 11 = .ok (.iconst 1, 1) := by decide +kernel
theorem dX12_hear_12 : decode cX12_hear 12 = .ok (.invokevirtual 253, 3) := by decide +kernel
theorem dX12_hear_15 : decode cX12_hear 15 = .ok (.ifCond .eq 5, 3) := by decide +kernel
theorem dX12_hear_18 : decode cX12_hear 18 = .ok (.iconst 0, 1) := by decide +kernel
theorem dX12_hear_19 : decode cX12_hear 19 = .ok (.ireturn, 1) := by decide +kernel
theorem dX12_hear_20 : decode cX12_hear 20 = .ok (.aload_n 0, 1) := by decide +kernel
theorem dX12_hear_21 : decode cX12_hear 21 = .ok (.invokevirtual 356, 3) := by decide +kernel
theorem dX12_hear_24 : decode cX12_hear 24 = .ok (.aload_n 0, 1) := by decide +kernel
theorem dX12_hear_25 : decode cX12_hear 25 = .ok (.iload_n 1, 1) := by decide +kernel
theorem dX12_hear_26 : decode cX12_hear 26 = .ok (.iconst 5, 1) := by decide +kernel
theorem dX12_hear_27 : decode cX12_hear 27 = .ok (.invokevirtual 68, 3) := by decide +kernel
theorem dX12_hear_30 : decode cX12_hear 30 = .ok (.istore_n 3, 1) := by decide +kernel
theorem dX12_hear_31 : decode cX12_hear 31 = .ok (.aload_n 0, 1) := by decide +kernel
theorem dX12_hear_32 : decode cX12_hear 32 = .ok (.getfield 13, 3) := by decide +kernel
theorem dX12_hear_35 : decode cX12_hear 35 = .ok (.iload_n 1, 1) := by decide +kernel
theorem dX12_hear_36 : decode cX12_hear 36 = .ok (.iconst 5, 1) := by decide +kernel
theorem dX12_hear_37 : decode cX12_hear 37 = .ok (.invokestatic 64, 3) := by decide +kernel
theorem dX12_hear_40 : decode cX12_hear 40 = .ok (.iload_n 2, 1) := by decide +kernel
theorem dX12_hear_41 : decode cX12_hear 41 = .ok (.iconst 1, 1) := by decide +kernel
theorem dX12_hear_42 : decode cX12_hear 42 = .ok (.aload_n 0, 1) := by decide +kernel
theorem dX12_hear_43 : decode cX12_hear 43 = .ok (.invokevirtual 74, 3) := by decide +kernel
theorem dX12_hear_46 : decode cX12_hear 46 = .ok (.ishl, 1) := by decide +kernel
theorem dX12_hear_47 : decode cX12_hear 47 = .ok (.iconst 1, 1) := by decide +kernel
theorem dX12_hear_48 : decode cX12_hear 48 = .ok (.isub, 1) := by decide +kernel
theorem dX12_hear_49 : decode cX12_hear 49 = .ok (.iand, 1) := by decide +kernel
theorem dX12_hear_50 : decode cX12_hear 50 = .ok (.iconst 1, 1) := by decide +kernel
theorem dX12_hear_51 : decode cX12_hear 51 = .ok (.iload_n 1, 1) := by decide +kernel
theorem dX12_hear_52 : decode cX12_hear 52 = .ok (.ishl, 1) := by decide +kernel
theorem dX12_hear_53 : decode cX12_hear 53 = .ok (.iconst (-1), 1) := by decide +kernel
theorem dX12_hear_54 : decode cX12_hear 54 = .ok (.ixor, 1) := by decide +kernel
theorem dX12_hear_55 : decode cX12_hear 55 = .ok (.iand, 1) := by decide +kernel
theorem dX12_hear_56 : decode cX12_hear 56 = .ok (.iastore, 1) := by decide +kernel
theorem dX12_hear_57 : decode cX12_hear 57 = .ok (.iload_n 3, 1) := by decide +kernel
theorem dX12_hear_58 : decode cX12_hear 58 = .ok (.ireturn, 1) := by decide +kernel
theorem dX12_refound_0 : decode cX12_refound 0 = .ok (.aload_n 0, 1) := by decide +kernel
theorem dX12_refound_1 : decode cX12_refound 1 = .ok (.iconst 0, 1) := by decide +kernel
theorem dX12_refound_2 : decode cX12_refound 2 = .ok (.putfield 3, 3) := by decide +kernel
theorem dX12_refound_5 : decode cX12_refound 5 = .ok (.aload_n 0, 1) := by decide +kernel
theorem dX12_refound_6 : decode cX12_refound 6 = .ok (.invokevirtual 356, 3) := by decide +kernel
theorem dX12_refound_9 : decode cX12_refound 9 = .ok (.aload_n 0, 1) := by decide +kernel
theorem dX12_refound_10 : decode cX12_refound 10 = .ok (.invokevirtual 268, 3) := by decide +kernel
theorem dX12_refound_13 : decode cX12_refound 13 = .ok (.istore_n 1, 1) := by decide +kernel
theorem dX12_refound_14 : decode cX12_refound 14 = .ok (.aload_n 0, 1) := by decide +kernel
theorem dX12_refound_15 : decode cX12_refound 15 = .ok (.getfield 13, 3) := by decide +kernel
theorem dX12_refound_18 : decode cX12_refound 18 = .ok (.bipush 8, 2) := by decide +kernel
theorem dX12_refound_20 : decode cX12_refound 20 = .ok (.iconst 0, 1) := by decide +kernel
theorem dX12_refound_21 : decode cX12_refound 21 = .ok (.iastore, 1) := by decide +kernel
theorem dX12_refound_22 : decode cX12_refound 22 = .ok (.iload_n 1, 1) := by decide +kernel
theorem dX12_refound_23 : decode cX12_refound 23 = .ok (.ireturn, 1) := by decide +kernel
theorem dX12_days_0 : decode cX12_days 0 = .ok (.aload_n 0, 1) := by decide +kernel
theorem dX12_days_1 : decode cX12_days 1 = .ok (.iconst 0, 1) := by decide +kernel
theorem dX12_days_2 : decode cX12_days 2 = .ok (.putfield 3, 3) := by decide +kernel
theorem dX12_days_5 : decode cX12_days 5 = .ok (.aload_n 0, 1) := by decide +kernel
theorem dX12_days_6 : decode cX12_days 6 = .ok (.iload_n 1, 1) := by decide +kernel
theorem dX12_days_7 : decode cX12_days 7 = .ok (.iconst 1, 1) := by decide +kernel
theorem dX12_days_8 : decode cX12_days 8 = .ok (.bipush 60, 2) := by decide +kernel
theorem dX12_days_10 : decode cX12_days 10 = .ok (.invokestatic 78, 3) := by decide +kernel
theorem dX12_days_13 : decode cX12_days 13 = .ok (.ifCond .ne 7, 3) := by decide +kernel
theorem dX12_days_16 : decode cX12_days 16 = .ok (.iconst 1, 1) := by decide +kernel
theorem dX12_days_17 : decode cX12_days 17 = .ok (.goto 4, 3) := by decide +kernel
theorem dX12_days_20 : decode cX12_days 20 = .ok (.iconst 0, 1) := by decide +kernel
theorem dX12_days_21 : decode cX12_days 21 = .ok (.iconst 1, 1) := by decide +kernel
theorem dX12_days_22 : decode cX12_days 22 = .ok (.invokevirtual 253, 3) := by decide +kernel
theorem dX12_days_25 : decode cX12_days 25 = .ok (.ifCond .eq 5, 3) := by decide +kernel
theorem dX12_days_28 : decode cX12_days 28 = .ok (.iconst 0, 1) := by decide +kernel
theorem dX12_days_29 : decode cX12_days 29 = .ok (.ireturn, 1) := by decide +kernel
theorem dX12_days_30 : decode cX12_days 30 = .ok (.aload_n 0, 1) := by decide +kernel
theorem dX12_days_31 : decode cX12_days 31 = .ok (.invokevirtual 356, 3) := by decide +kernel
theorem dX12_days_34 : decode cX12_days 34 = .ok (.aload_n 0, 1) := by decide +kernel
theorem dX12_days_35 : decode cX12_days 35 = .ok (.getfield 13, 3) := by decide +kernel
theorem dX12_days_38 : decode cX12_days 38 = .ok (.bipush 9, 2) := by decide +kernel
theorem dX12_days_40 : decode cX12_days 40 = .ok (.iaload, 1) := by decide +kernel
theorem dX12_days_41 : decode cX12_days 41 = .ok (.istore_n 2, 1) := by decide +kernel
theorem dX12_days_42 : decode cX12_days 42 = .ok (.iconst 0, 1) := by decide +kernel
theorem dX12_days_43 : decode cX12_days 43 = .ok (.istore_n 3, 1) := by decide +kernel
theorem dX12_days_44 : decode cX12_days 44 = .ok (.iload_n 3, 1) := by decide +kernel
theorem dX12_days_45 : decode cX12_days 45 = .ok (.iload_n 1, 1) := by decide +kernel
theorem dX12_days_46 : decode cX12_days 46 = .ok (.if_icmp .ge 14, 3) := by decide +kernel
theorem dX12_days_49 : decode cX12_days 49 = .ok (.aload_n 0, 1) := by decide +kernel
theorem dX12_days_50 : decode cX12_days 50 = .ok (.iconst 0, 1) := by decide +kernel
theorem dX12_days_51 : decode cX12_days 51 = .ok (.invokevirtual 325, 3) := by decide +kernel
theorem dX12_days_54 : decode cX12_days 54 = .ok (.iinc 3 1, 3) := by decide +kernel
theorem dX12_days_57 : decode cX12_days 57 = .ok (.goto (-13), 3) := by decide +kernel
theorem dX12_days_60 : decode cX12_days 60 = .ok (.aload_n 0, 1) := by decide +kernel
theorem dX12_days_61 : decode cX12_days 61 = .ok (.getfield 13, 3) := by decide +kernel
theorem dX12_days_64 : decode cX12_days 64 = .ok (.bipush 9, 2) := by decide +kernel
theorem dX12_days_66 : decode cX12_days 66 = .ok (.iaload, 1) := by decide +kernel
theorem dX12_days_67 : decode cX12_days 67 = .ok (.iload_n 2, 1) := by decide +kernel
theorem dX12_days_68 : decode cX12_days 68 = .ok (.isub, 1) := by decide +kernel
theorem dX12_days_69 : decode cX12_days 69 = .ok (.ireturn, 1) := by decide +kernel
theorem dX12_ahead_0 : decode cX12_ahead 0 = .ok (.aload_n 0, 1) := by decide +kernel
theorem dX12_ahead_1 : decode cX12_ahead 1 = .ok (.iconst 0, 1) := by decide +kernel
theorem dX12_ahead_2 : decode cX12_ahead 2 = .ok (.putfield 3, 3) := by decide +kernel
theorem dX12_ahead_5 : decode cX12_ahead 5 = .ok (.aload_n 0, 1) := by decide +kernel
theorem dX12_ahead_6 : decode cX12_ahead 6 = .ok (.aload_n 0, 1) := by decide +kernel
theorem dX12_ahead_7 : decode cX12_ahead 7 = .ok (.iload_n 1, 1) := by decide +kernel
theorem dX12_ahead_8 : decode cX12_ahead 8 = .ok (.invokevirtual 335, 3) := by decide +kernel
theorem dX12_ahead_11 : decode cX12_ahead 11 = .ok (.iconst 1, 1) := by decide +kernel
theorem dX12_ahead_12 : decode cX12_ahead 12 = .ok (.invokevirtual 253, 3) := by decide +kernel
theorem dX12_ahead_15 : decode cX12_ahead 15 = .ok (.ifCond .ne 26, 3) := by decide +kernel
theorem dX12_ahead_18 : decode cX12_ahead 18 = .ok (.aload_n 0, 1) := by decide +kernel
theorem dX12_ahead_19 : decode cX12_ahead 19 = .ok (.iload_n 2, 1) := by decide +kernel
theorem dX12_ahead_20 : decode cX12_ahead 20 = .ok (.iconst 0, 1) := by decide +kernel
theorem dX12_ahead_21 : decode cX12_ahead 21 = .ok (.bipush 60, 2) := by decide +kernel
theorem dX12_ahead_23 : decode cX12_ahead 23 = .ok (.invokestatic 78, 3) := by decide +kernel
theorem dX12_ahead_26 : decode cX12_ahead 26 = .ok (.ifCond .ne 7, 3) := by decide +kernel
theorem dX12_ahead_29 : decode cX12_ahead 29 = .ok (.iconst 1, 1) := by decide +kernel
theorem dX12_ahead_30 : decode cX12_ahead 30 = .ok (.goto 4, 3) := by decide +kernel
theorem dX12_ahead_33 : decode cX12_ahead 33 = .ok (.iconst 0, 1) := by decide +kernel
theorem dX12_ahead_34 : decode cX12_ahead 34 = .ok (.iconst 2, 1) := by decide +kernel
theorem dX12_ahead_35 : decode cX12_ahead 35 = .ok (.invokevirtual 253, 3) := by decide +kernel
theorem dX12_ahead_38 : decode cX12_ahead 38 = .ok (.ifCond .eq 5, 3) := by decide +kernel
theorem dX12_ahead_41 : decode cX12_ahead 41 = .ok (.iconst 0, 1) := by decide +kernel
theorem dX12_ahead_42 : decode cX12_ahead 42 = .ok (.ireturn, 1) := by decide +kernel
theorem dX12_ahead_43 : decode cX12_ahead 43 = .ok (.aload_n 0, 1) := by decide +kernel
theorem dX12_ahead_44 : decode cX12_ahead 44 = .ok (.invokevirtual 350, 3) := by decide +kernel
theorem dX12_ahead_47 : decode cX12_ahead 47 = .ok (.aload_n 0, 1) := by decide +kernel
theorem dX12_ahead_48 : decode cX12_ahead 48 = .ok (.iload_n 2, 1) := by decide +kernel
theorem dX12_ahead_49 : decode cX12_ahead 49 = .ok (.invokevirtual 362, 3) := by decide +kernel
theorem dX12_ahead_52 : decode cX12_ahead 52 = .ok (.aload_n 0, 1) := by decide +kernel
theorem dX12_ahead_53 : decode cX12_ahead 53 = .ok (.iload_n 1, 1) := by decide +kernel
theorem dX12_ahead_54 : decode cX12_ahead 54 = .ok (.iconst 1, 1) := by decide +kernel
theorem dX12_ahead_55 : decode cX12_ahead 55 = .ok (.invokevirtual 68, 3) := by decide +kernel
theorem dX12_ahead_58 : decode cX12_ahead 58 = .ok (.istore_n 3, 1) := by decide +kernel
theorem dX12_ahead_59 : decode cX12_ahead 59 = .ok (.aload_n 0, 1) := by decide +kernel
theorem dX12_ahead_60 : decode cX12_ahead 60 = .ok (.invokevirtual 353, 3) := by decide +kernel
theorem dX12_ahead_63 : decode cX12_ahead 63 = .ok (.iload_n 3, 1) := by decide +kernel
theorem dX12_ahead_64 : decode cX12_ahead 64 = .ok (.ireturn, 1) := by decide +kernel
theorem dX12_fails_0 : decode cX12_fails 0 = .ok (.aload_n 0, 1) := by decide +kernel
theorem dX12_fails_1 : decode cX12_fails 1 = .ok (.iconst 0, 1) := by decide +kernel
theorem dX12_fails_2 : decode cX12_fails 2 = .ok (.putfield 3, 3) := by decide +kernel
theorem dX12_fails_5 : decode cX12_fails 5 = .ok (.aload_n 0, 1) := by decide +kernel
theorem dX12_fails_6 : decode cX12_fails 6 = .ok (.iload_n 1, 1) := by decide +kernel
theorem dX12_fails_7 : decode cX12_fails 7 = .ok (.iconst 0, 1) := by decide +kernel
theorem dX12_fails_8 : decode cX12_fails 8 = .ok (.bipush 60, 2) := by decide +kernel
theorem dX12_fails_10 : decode cX12_fails 10 = .ok (.invokestatic 78, 3) := by decide +kernel
theorem dX12_fails_13 : decode cX12_fails 13 = .ok (.ifCond .ne 7, 3) := by decide +kernel
theorem dX12_fails_16 : decode cX12_fails 16 = .ok (.iconst 1, 1) := by decide +kernel
theorem dX12_fails_17 : decode cX12_fails 17 = .ok (.goto 4, 3) := by decide +kernel
theorem dX12_fails_20 : decode cX12_fails 20 = .ok (.iconst 0, 1) := by decide +kernel
theorem dX12_fails_21 : decode cX12_fails 21 = .ok (.iconst 1, 1) := by decide +kernel
theorem dX12_fails_22 : decode cX12_fails 22 = .ok (.invokevirtual 253, 3) := by decide +kernel
theorem dX12_fails_25 : decode cX12_fails 25 = .ok (.ifCond .eq 5, 3) := by decide +kernel
theorem dX12_fails_28 : decode cX12_fails 28 = .ok (.iconst 0, 1) := by decide +kernel
theorem dX12_fails_29 : decode cX12_fails 29 = .ok (.ireturn, 1) := by decide +kernel
theorem dX12_fails_30 : decode cX12_fails 30 = .ok (.aload_n 0, 1) := by decide +kernel
theorem dX12_fails_31 : decode cX12_fails 31 = .ok (.invokevirtual 350, 3) := by decide +kernel
theorem dX12_fails_34 : decode cX12_fails 34 = .ok (.aload_n 0, 1) := by decide +kernel
theorem dX12_fails_35 : decode cX12_fails 35 = .ok (.iload_n 1, 1) := by decide +kernel
theorem dX12_fails_36 : decode cX12_fails 36 = .ok (.invokevirtual 362, 3) := by decide +kernel
theorem dX12_fails_39 : decode cX12_fails 39 = .ok (.aload_n 0, 1) := by decide +kernel
theorem dX12_fails_40 : decode cX12_fails 40 = .ok (.invokevirtual 268, 3) := by decide +kernel
theorem dX12_fails_43 : decode cX12_fails 43 = .ok (.istore_n 2, 1) := by decide +kernel
theorem dX12_fails_44 : decode cX12_fails 44 = .ok (.aload_n 0, 1) := by decide +kernel
theorem dX12_fails_45 : decode cX12_fails 45 = .ok (.invokevirtual 353, 3) := by decide +kernel
theorem dX12_fails_48 : decode cX12_fails 48 = .ok (.iload_n 2, 1) := by decide +kernel
theorem dX12_fails_49 : decode cX12_fails 49 = .ok (.ireturn, 1) := by decide +kernel
theorem dX12_first_0 : decode cX12_first 0 = .ok (.aload_n 0, 1) := by decide +kernel
theorem dX12_first_1 : decode cX12_first 1 = .ok (.iconst 0, 1) := by decide +kernel
theorem dX12_first_2 : decode cX12_first 2 = .ok (.putfield 3, 3) := by decide +kernel
theorem dX12_first_5 : decode cX12_first 5 = .ok (.aload_n 0, 1) := by decide +kernel
theorem dX12_first_6 : decode cX12_first 6 = .ok (.invokevirtual 350, 3) := by decide +kernel
theorem dX12_first_9 : decode cX12_first 9 = .ok (.iconst (-1), 1) := by decide +kernel
theorem dX12_first_10 : decode cX12_first 10 = .ok (.istore_n 2, 1) := by decide +kernel
theorem dX12_first_11 : decode cX12_first 11 = .ok (.iconst 0, 1) := by decide +kernel
theorem dX12_first_12 : decode cX12_first 12 = .ok (.istore_n 3, 1) := by decide +kernel
theorem dX12_first_13 : decode cX12_first 13 = .ok (.iload_n 3, 1) := by decide +kernel
theorem dX12_first_14 : decode cX12_first 14 = .ok (.bipush 60, 2) := by decide +kernel
theorem dX12_first_16 : decode cX12_first 16 = .ok (.if_icmp .ge 53, 3) := by decide +kernel
theorem dX12_first_19 : decode cX12_first 19 = .ok (.iload_n 2, 1) := by decide +kernel
theorem dX12_first_20 : decode cX12_first 20 = .ok (.ifCond .ge 49, 3) := by decide +kernel
theorem dX12_first_23 : decode cX12_first 23 = .ok (.aload_n 0, 1) := by decide +kernel
theorem dX12_first_24 : decode cX12_first 24 = .ok (.iconst 1, 1) := by decide +kernel
theorem dX12_first_25 : decode cX12_first 25 = .ok (.invokevirtual 325, 3) := by decide +kernel
theorem dX12_first_28 : decode cX12_first 28 = .ok (.iinc 3 1, 3) := by decide +kernel
theorem dX12_first_31 : decode cX12_first 31 = .ok (.aload_n 0, 1) := by decide +kernel
theorem dX12_first_32 : decode cX12_first 32 = .ok (.invokevirtual 74, 3) := by decide +kernel
theorem dX12_first_35 : decode cX12_first 35 = .ok (.iconst 1, 1) := by decide +kernel
theorem dX12_first_36 : decode cX12_first 36 = .ok (.isub, 1) := by decide +kernel
theorem dX12_first_37 : decode cX12_first 37 = .ok (.istore 4, 2) := by decide +kernel
theorem dX12_first_39 : decode cX12_first 39 = .ok (.iload 4, 2) := by decide +kernel
theorem dX12_first_41 : decode cX12_first 41 = .ok (.ifCond .lt 25, 3) := by decide +kernel
theorem dX12_first_44 : decode cX12_first 44 = .ok (.aload_n 0, 1) := by decide +kernel
theorem dX12_first_45 : decode cX12_first 45 = .ok (.iload 4, 2) := by decide +kernel
theorem dX12_first_47 : decode cX12_first 47 = .ok (.invokevirtual 318, 3) := by decide +kernel
theorem dX12_first_50 : decode cX12_first 50 = .ok (.ifCond .eq 8, 3) := by decide +kernel
theorem dX12_first_53 : decode cX12_first 53 = .ok (.iload 4, 2) := by decide +kernel
theorem dX12_first_55 : decode cX12_first 55 = .ok (.goto 4, 3) := by decide +kernel
theorem dX12_first_58 : decode cX12_first 58 = .ok (.iload_n 2, 1) := by decide +kernel
theorem dX12_first_59 : decode cX12_first 59 = .ok (.istore_n 2, 1) := by decide +kernel
theorem dX12_first_60 : decode cX12_first 60 = .ok (.iinc 4 (-1), 3) := by decide +kernel
theorem dX12_first_63 : decode cX12_first 63 = .ok (.goto (-24), 3) := by decide +kernel
theorem dX12_first_66 : decode cX12_first 66 = .ok (.goto (-53), 3) := by decide +kernel
theorem dX12_first_69 : decode cX12_first 69 = .ok (.aload_n 0, 1) := by decide +kernel
theorem dX12_first_70 : decode cX12_first 70 = .ok (.invokevirtual 353, 3) := by decide +kernel
theorem dX12_first_73 : decode cX12_first 73 = .ok (.iload_n 2, 1) := by decide +kernel
theorem dX12_first_74 : decode cX12_first 74 = .ok (.ifCond .ge 7, 3) := by decide +kernel
theorem dX12_first_77 : decode cX12_first 77 = .ok (.iconst (-1), 1) := by decide +kernel
theorem dX12_first_78 : decode cX12_first 78 = .ok (.goto 12, 3) := by decide +kernel
theorem dX12_first_81 : decode cX12_first 81 = .ok (.iload_n 1, 1) := by decide +kernel
theorem dX12_first_82 : decode cX12_first 82 = .ok (.ifCond .eq 7, 3) := by decide +kernel
theorem dX12_first_85 : decode cX12_first 85 = .ok (.iload_n 2, 1) := by decide +kernel
theorem dX12_first_86 : decode cX12_first 86 = .ok (.goto 4, 3) := by decide +kernel
theorem dX12_first_89 : decode cX12_first 89 = .ok (.iload_n 3, 1) := by decide +kernel
theorem dX12_first_90 : decode cX12_first 90 = .ok (.ireturn, 1) := by decide +kernel
theorem dX12_peak_0 : decode cX12_peak 0 = .ok (.aload_n 0, 1) := by decide +kernel
theorem dX12_peak_1 : decode cX12_peak 1 = .ok (.iconst 0, 1) := by decide +kernel
theorem dX12_peak_2 : decode cX12_peak 2 = .ok (.putfield 3, 3) := by decide +kernel
theorem dX12_peak_5 : decode cX12_peak 5 = .ok (.aload_n 0, 1) := by decide +kernel
theorem dX12_peak_6 : decode cX12_peak 6 = .ok (.aload_n 0, 1) := by decide +kernel
theorem dX12_peak_7 : decode cX12_peak 7 = .ok (.iload_n 1, 1) := by decide +kernel
theorem dX12_peak_8 : decode cX12_peak 8 = .ok (.invokevirtual 335, 3) := by decide +kernel
theorem dX12_peak_11 : decode cX12_peak 11 = .ok (.iconst 1, 1) := by decide +kernel
theorem dX12_peak_12 : decode cX12_peak 12 = .ok (.invokevirtual 253, 3) := by decide +kernel
theorem dX12_peak_15 : decode cX12_peak 15 = .ok (.ifCond .ne 47, 3) := by decide +kernel
theorem dX12_peak_18 : decode cX12_peak 18 = .ok (.aload_n 0, 1) := by decide +kernel
theorem dX12_peak_19 : decode cX12_peak 19 = .ok (.iload_n 2, 1) := by decide +kernel
theorem dX12_peak_20 : decode cX12_peak 20 = .ok (.iconst 1, 1) := by decide +kernel
theorem dX12_peak_21 : decode cX12_peak 21 = .ok (.bipush 60, 2) := by decide +kernel
theorem dX12_peak_23 : decode cX12_peak 23 = .ok (.invokestatic 78, 3) := by decide +kernel
theorem dX12_peak_26 : decode cX12_peak 26 = .ok (.ifCond .ne 7, 3) := by decide +kernel
theorem dX12_peak_29 : decode cX12_peak 29 = .ok (.iconst 1, 1) := by decide +kernel
theorem dX12_peak_30 : decode cX12_peak 30 = .ok (.goto 4, 3) := by decide +kernel
theorem dX12_peak_33 : decode cX12_peak 33 = .ok (.iconst 0, 1) := by decide +kernel
theorem dX12_peak_34 : decode cX12_peak 34 = .ok (.iconst 2, 1) := by decide +kernel
theorem dX12_peak_35 : decode cX12_peak 35 = .ok (.invokevirtual 253, 3) := by decide +kernel
theorem dX12_peak_38 : decode cX12_peak 38 = .ok (.ifCond .ne 24, 3) := by decide +kernel
theorem dX12_peak_41 : decode cX12_peak 41 = .ok (.aload_n 0, 1) := by decide +kernel
theorem dX12_peak_42 : decode cX12_peak 42 = .ok (.aload_n 0, 1) := by decide +kernel
theorem dX12_peak_43 : decode cX12_peak 43 = .ok (.iload_n 1, 1) := by decide +kernel
theorem dX12_peak_44 : decode cX12_peak 44 = .ok (.invokevirtual 296, 3) := by decide +kernel
theorem dX12_peak_47 : decode cX12_peak 47 = .ok (.ifCond .ne 7, 3) := by decide +kernel
theorem dX12_peak_50 : decode cX12_peak 50 = .ok (.iconst 1, 1) := by decide +kernel
theorem dX12_peak_51 : decode cX12_peak 51 = .ok (.goto 4, 3) := by decide +kernel
theorem dX12_peak_54 : decode cX12_peak 54 = .ok (.iconst 0, 1) := by decide +kernel
theorem dX12_peak_55 : decode cX12_peak 55 = .ok (.iconst 3, 1) := by decide +kernel
theorem dX12_peak_56 : decode cX12_peak 56 = .ok (.invokevirtual 253, 3) := by decide +kernel
theorem dX12_peak_59 : decode cX12_peak 59 = .ok (.ifCond .eq 5, 3) := by decide +kernel
theorem dX12_peak_62 : decode cX12_peak 62 = .ok (.iconst 0, 1) := by decide +kernel
theorem dX12_peak_63 : decode cX12_peak 63 = .ok (.ireturn, 1) := by decide +kernel
theorem dX12_peak_64 : decode cX12_peak 64 = .ok (.aload_n 0, 1) := by decide +kernel
theorem dX12_peak_65 : decode cX12_peak 65 = .ok (.invokevirtual 350, 3) := by decide +kernel
theorem dX12_peak_68 : decode cX12_peak 68 = .ok (.iconst (-1), 1) := by decide +kernel
theorem dX12_peak_69 : decode cX12_peak 69 = .ok (.istore 4, 2) := by decide +kernel
theorem dX12_peak_71 : decode cX12_peak 71 = .ok (.iconst 0, 1) := by decide +kernel
theorem dX12_peak_72 : decode cX12_peak 72 = .ok (.istore 5, 2) := by decide +kernel
theorem dX12_peak_74 : decode cX12_peak 74 = .ok (.iconst 0, 1) := by decide +kernel
theorem dX12_peak_75 : decode cX12_peak 75 = .ok (.istore 6, 2) := by decide +kernel
theorem dX12_peak_77 : decode cX12_peak 77 = .ok (.iload 6, 2) := by decide +kernel
theorem dX12_peak_79 : decode cX12_peak 79 = .ok (.iload_n 2, 1) := by decide +kernel
theorem dX12_peak_80 : decode cX12_peak 80 = .ok (.if_icmp .ge 47, 3) := by decide +kernel
theorem dX12_peak_83 : decode cX12_peak 83 = .ok (.aload_n 0, 1) := by decide +kernel
theorem dX12_peak_84 : decode cX12_peak 84 = .ok (.iconst 1, 1) := by decide +kernel
theorem dX12_peak_85 : decode cX12_peak 85 = .ok (.invokevirtual 325, 3) := by decide +kernel
theorem dX12_peak_88 : decode cX12_peak 88 = .ok (.aload_n 0, 1) := by decide +kernel
theorem dX12_peak_89 : decode cX12_peak 89 = .ok (.getfield 48, 3) := by decide +kernel
theorem dX12_peak_92 : decode cX12_peak 92 = .ok (.iload_n 1, 1) := by decide +kernel
theorem dX12_peak_93 : decode cX12_peak 93 = .ok (.iaload, 1) := by decide +kernel
theorem dX12_peak_94 : decode cX12_peak 94 = .ok (.iload 4, 2) := by decide +kernel
theorem dX12_peak_96 : decode cX12_peak 96 = .ok (.if_icmp .le 8, 3) := by decide +kernel
theorem dX12_peak_99 : decode cX12_peak 99 = .ok (.iload 6, 2) := by decide +kernel
theorem dX12_peak_101 : decode cX12_peak 101 = .ok (.goto 5, 3) := by decide +kernel
theorem dX12_peak_104 : decode cX12_peak 104 = .ok (.iload 5, 2) := by decide +kernel
theorem dX12_peak_106 : decode cX12_peak 106 = .ok (.istore 5, 2) := by decide +kernel
theorem dX12_peak_108 : decode cX12_peak 108 = .ok (.iload 4, 2) := by decide +kernel
theorem dX12_peak_110 : decode cX12_peak 110 = .ok (.aload_n 0, 1) := by decide +kernel
theorem dX12_peak_111 : decode cX12_peak 111 = .ok (.getfield 48, 3) := by decide +kernel
theorem dX12_peak_114 : decode cX12_peak 114 = .ok (.iload_n 1, 1) := by decide +kernel
theorem dX12_peak_115 : decode cX12_peak 115 = .ok (.iaload, 1) := by decide +kernel
theorem dX12_peak_116 : decode cX12_peak 116 = .ok (.invokestatic 280, 3) := by decide +kernel
theorem dX12_peak_119 : decode cX12_peak 119 = .ok (.istore 4, 2) := by decide +kernel
theorem dX12_peak_121 : decode cX12_peak 121 = .ok (.iinc 6 1, 3) := by decide +kernel
theorem dX12_peak_124 : decode cX12_peak 124 = .ok (.goto (-47), 3) := by decide +kernel
theorem dX12_peak_127 : decode cX12_peak 127 = .ok (.aload_n 0, 1) := by decide +kernel
theorem dX12_peak_128 : decode cX12_peak 128 = .ok (.invokevirtual 353, 3) := by decide +kernel
theorem dX12_peak_131 : decode cX12_peak 131 = .ok (.iload_n 3, 1) := by decide +kernel
theorem dX12_peak_132 : decode cX12_peak 132 = .ok (.ifCond .eq 8, 3) := by decide +kernel
theorem dX12_peak_135 : decode cX12_peak 135 = .ok (.iload 5, 2) := by decide +kernel
theorem dX12_peak_137 : decode cX12_peak 137 = .ok (.goto 5, 3) := by decide +kernel
theorem dX12_peak_140 : decode cX12_peak 140 = .ok (.iload 4, 2) := by decide +kernel
theorem dX12_peak_142 : decode cX12_peak 142 = .ok (.ireturn, 1) := by decide +kernel
theorem dX12_needed_0 : decode cX12_needed 0 = .ok (.aload_n 0, 1) := by decide +kernel
theorem dX12_needed_1 : decode cX12_needed 1 = .ok (.iconst 0, 1) := by decide +kernel
theorem dX12_needed_2 : decode cX12_needed 2 = .ok (.putfield 3, 3) := by decide +kernel
theorem dX12_needed_5 : decode cX12_needed 5 = .ok (.aload_n 0, 1) := by decide +kernel
theorem dX12_needed_6 : decode cX12_needed 6 = .ok (.iload_n 1, 1) := by decide +kernel
theorem dX12_needed_7 : decode cX12_needed 7 = .ok (.iconst 0, 1) := by decide +kernel
theorem dX12_needed_8 : decode cX12_needed 8 = .ok (.bipush 60, 2) := by decide +kernel
theorem dX12_needed_10 : decode cX12_needed 10 = .ok (.invokestatic 78, 3) := by decide +kernel
theorem dX12_needed_13 : decode cX12_needed 13 = .ok (.ifCond .ne 7, 3) := by decide +kernel
theorem dX12_needed_16 : decode cX12_needed 16 = .ok (.iconst 1, 1) := by decide +kernel
theorem dX12_needed_17 : decode cX12_needed 17 = .ok (.goto 4, 3) := by decide +kernel
theorem dX12_needed_20 : decode cX12_needed 20 = .ok (.iconst 0, 1) := by decide +kernel
theorem dX12_needed_21 : decode cX12_needed 21 = .ok (.iconst 1, 1) := by decide +kernel
theorem dX12_needed_22 : decode cX12_needed 22 = .ok (.invokevirtual 253, 3) := by decide +kernel
theorem dX12_needed_25 : decode cX12_needed 25 = .ok (.ifCond .eq 5, 3) := by decide +kernel
theorem dX12_needed_28 : decode cX12_needed 28 = .ok (.iconst 0, 1) := by decide +kernel
theorem dX12_needed_29 : decode cX12_needed 29 = .ok (.ireturn, 1) := by decide +kernel
theorem dX12_needed_30 : decode cX12_needed 30 = .ok (.aload_n 0, 1) := by decide +kernel
theorem dX12_needed_31 : decode cX12_needed 31 = .ok (.invokevirtual 350, 3) := by decide +kernel
theorem dX12_needed_34 : decode cX12_needed 34 = .ok (.aload_n 0, 1) := by decide +kernel
theorem dX12_needed_35 : decode cX12_needed 35 = .ok (.getfield 13, 3) := by decide +kernel
theorem dX12_needed_38 : decode cX12_needed 38 = .ok (.iconst 4, 1) := by decide +kernel
theorem dX12_needed_39 : decode cX12_needed 39 = .ok (.ldc_w 365, 3) := by decide +kernel
theorem dX12_needed_42 : decode cX12_needed 42 = .ok (.iastore, 1) := by decide +kernel
theorem dX12_needed_43 : decode cX12_needed 43 = .ok (.iconst 0, 1) := by decide +kernel
theorem dX12_needed_44 : decode cX12_needed 44 = .ok (.istore_n 2, 1) := by decide +kernel
theorem dX12_needed_45 : decode cX12_needed 45 = .ok (.iconst 0, 1) := by decide +kernel
theorem dX12_needed_46 : decode cX12_needed 46 = .ok (.istore_n 3, 1) := by decide +kernel
theorem dX12_needed_47 : decode cX12_needed 47 = .ok (.iload_n 3, 1) := by decide +kernel
theorem dX12_needed_48 : decode cX12_needed 48 = .ok (.iload_n 1, 1) := by decide +kernel
theorem dX12_needed_49 : decode cX12_needed 49 = .ok (.if_icmp .ge 23, 3) := by decide +kernel
theorem dX12_needed_52 : decode cX12_needed 52 = .ok (.aload_n 0, 1) := by decide +kernel
theorem dX12_needed_53 : decode cX12_needed 53 = .ok (.iconst 1, 1) := by decide +kernel
theorem dX12_needed_54 : decode cX12_needed 54 = .ok (.invokevirtual 325, 3) := by decide +kernel
theorem dX12_needed_57 : decode cX12_needed 57 = .ok (.iload_n 2, 1) := by decide +kernel
theorem dX12_needed_58 : decode cX12_needed 58 = .ok (.aload_n 0, 1) := by decide +kernel
theorem dX12_needed_59 : decode cX12_needed 59 = .ok (.invokevirtual 312, 3) := by decide +kernel
theorem dX12_needed_62 : decode cX12_needed 62 = .ok (.invokestatic 280, 3) := by decide +kernel
theorem dX12_needed_65 : decode cX12_needed 65 = .ok (.istore_n 2, 1) := by decide +kernel
theorem dX12_needed_66 : decode cX12_needed 66 = .ok (.iinc 3 1, 3) := by decide +kernel
theorem dX12_needed_69 : decode cX12_needed 69 = .ok (.goto (-22), 3) := by decide +kernel
theorem dX12_needed_72 : decode cX12_needed 72 = .ok (.aload_n 0, 1) := by decide +kernel
theorem dX12_needed_73 : decode cX12_needed 73 = .ok (.invokevirtual 353, 3) := by decide +kernel
theorem dX12_needed_76 : decode cX12_needed 76 = .ok (.iload_n 2, 1) := by decide +kernel
theorem dX12_needed_77 : decode cX12_needed 77 = .ok (.ireturn, 1) := by decide +kernel
theorem dX12_isFelt_0 : decode cX12_isFelt 0 = .ok (.iconst 0, 1) := by decide +kernel
theorem dX12_isFelt_1 : decode cX12_isFelt 1 = .ok (.istore 4, 2) := by decide +kernel
theorem dX12_isFelt_3 : decode cX12_isFelt 3 = .ok (.iconst 0, 1) := by decide +kernel
theorem dX12_isFelt_4 : decode cX12_isFelt 4 = .ok (.istore 5, 2) := by decide +kernel
theorem dX12_isFelt_6 : decode cX12_isFelt 6 = .ok (.iload 5, 2) := by decide +kernel
theorem dX12_isFelt_8 : decode cX12_isFelt 8 = .ok (.iload_n 2, 1) := by decide +kernel
theorem dX12_isFelt_9 : decode cX12_isFelt 9 = .ok (.if_icmp .ge 34, 3) := by decide +kernel
theorem dX12_isFelt_12 : decode cX12_isFelt 12 = .ok (.iload 4, 2) := by decide +kernel
theorem dX12_isFelt_14 : decode cX12_isFelt 14 = .ok (.iconst 0, 1) := by decide +kernel
theorem dX12_isFelt_15 : decode cX12_isFelt 15 = .ok (.iload_n 3, 1) := by decide +kernel
theorem dX12_isFelt_16 : decode cX12_isFelt 16 = .ok (.aload_n 0, 1) := by decide +kernel
theorem dX12_isFelt_17 : decode cX12_isFelt 17 = .ok (.iload_n 1, 1) := by decide +kernel
theorem dX12_isFelt_18 : decode cX12_isFelt 18 = .ok (.aload_n 0, 1) := by decide +kernel
theorem dX12_isFelt_19 : decode cX12_isFelt 19 = .ok (.getfield 13, 3) := by decide +kernel
theorem dX12_isFelt_22 : decode cX12_isFelt 22 = .ok (.iconst 3, 1) := by decide +kernel
theorem dX12_isFelt_23 : decode cX12_isFelt 23 = .ok (.iaload, 1) := by decide +kernel
theorem dX12_isFelt_24 : decode cX12_isFelt 24 = .ok (.iload 5, 2) := by decide +kernel
theorem dX12_isFelt_26 : decode cX12_isFelt 26 = .ok (.iadd, 1) := by decide +kernel
theorem dX12_isFelt_27 : decode cX12_isFelt 27 = .ok (.invokevirtual 283, 3) := by decide +kernel
theorem dX12_isFelt_30 : decode cX12_isFelt 30 = .ok (.isub, 1) := by decide +kernel
theorem dX12_isFelt_31 : decode cX12_isFelt 31 = .ok (.invokestatic 280, 3) := by decide +kernel
theorem dX12_isFelt_34 : decode cX12_isFelt 34 = .ok (.iadd, 1) := by decide +kernel
theorem dX12_isFelt_35 : decode cX12_isFelt 35 = .ok (.istore 4, 2) := by decide +kernel
theorem dX12_isFelt_37 : decode cX12_isFelt 37 = .ok (.iinc 5 1, 3) := by decide +kernel
theorem dX12_isFelt_40 : decode cX12_isFelt 40 = .ok (.goto (-34), 3) := by decide +kernel
theorem dX12_isFelt_43 : decode cX12_isFelt 43 = .ok (.iload 4, 2) := by decide +kernel
theorem dX12_isFelt_45 : decode cX12_isFelt 45 = .ok (.aload_n 0, 1) := by decide +kernel
theorem dX12_isFelt_46 : decode cX12_isFelt 46 = .ok (.iload_n 1, 1) := by decide +kernel
theorem dX12_isFelt_47 : decode cX12_isFelt 47 = .ok (.iconst 1, 1) := by decide +kernel
theorem dX12_isFelt_48 : decode cX12_isFelt 48 = .ok (.invokevirtual 68, 3) := by decide +kernel
theorem dX12_isFelt_51 : decode cX12_isFelt 51 = .ok (.if_icmp .lt 7, 3) := by decide +kernel
theorem dX12_isFelt_54 : decode cX12_isFelt 54 = .ok (.iconst 1, 1) := by decide +kernel
theorem dX12_isFelt_55 : decode cX12_isFelt 55 = .ok (.goto 4, 3) := by decide +kernel
theorem dX12_isFelt_58 : decode cX12_isFelt 58 = .ok (.iconst 0, 1) := by decide +kernel
theorem dX12_isFelt_59 : decode cX12_isFelt 59 = .ok (.ireturn, 1) := by decide +kernel
theorem dX12_levelOf_0 : decode cX12_levelOf 0 = .ok (.iconst 0, 1) := by decide +kernel
theorem dX12_levelOf_1 : decode cX12_levelOf 1 = .ok (.istore_n 3, 1) := by decide +kernel
theorem dX12_levelOf_2 : decode cX12_levelOf 2 = .ok (.ldc_w 366, 3) := by decide +kernel
theorem dX12_levelOf_5 : decode cX12_levelOf 5 = .ok (.istore 4, 2) := by decide +kernel
theorem dX12_levelOf_7 : decode cX12_levelOf 7 = .ok (.iload_n 3, 1) := by decide +kernel
theorem dX12_levelOf_8 : decode cX12_levelOf 8 = .ok (.iload 4, 2) := by decide +kernel
theorem dX12_levelOf_10 : decode cX12_levelOf 10 = .ok (.if_icmp .ge 37, 3) := by decide +kernel
theorem dX12_levelOf_13 : decode cX12_levelOf 13 = .ok (.iload_n 3, 1) := by decide +kernel
theorem dX12_levelOf_14 : decode cX12_levelOf 14 = .ok (.iload 4, 2) := by decide +kernel
theorem dX12_levelOf_16 : decode cX12_levelOf 16 = .ok (.iadd, 1) := by decide +kernel
theorem dX12_levelOf_17 : decode cX12_levelOf 17 = .ok (.iconst 2, 1) := by decide +kernel
theorem dX12_levelOf_18 : decode cX12_levelOf 18 = .ok (.idiv, 1) := by decide +kernel
theorem dX12_levelOf_19 : decode cX12_levelOf 19 = .ok (.istore 5, 2) := by decide +kernel
theorem dX12_levelOf_21 : decode cX12_levelOf 21 = .ok (.aload_n 0, 1) := by decide +kernel
theorem dX12_levelOf_22 : decode cX12_levelOf 22 = .ok (.iload_n 1, 1) := by decide +kernel
theorem dX12_levelOf_23 : decode cX12_levelOf 23 = .ok (.iload_n 2, 1) := by decide +kernel
theorem dX12_levelOf_24 : decode cX12_levelOf 24 = .ok (.iload 5, 2) := by decide +kernel
theorem dX12_levelOf_26 : decode cX12_levelOf 26 = .ok (.invokevirtual 367, 3) := by decide +kernel
theorem dX12_levelOf_29 : decode cX12_levelOf 29 = .ok (.ifCond .eq 10, 3) := by decide +kernel
theorem dX12_levelOf_32 : decode cX12_levelOf 32 = .ok (.iload 5, 2) := by decide +kernel
theorem dX12_levelOf_34 : decode cX12_levelOf 34 = .ok (.istore 4, 2) := by decide +kernel
theorem dX12_levelOf_36 : decode cX12_levelOf 36 = .ok (.goto 8, 3) := by decide +kernel
theorem dX12_levelOf_39 : decode cX12_levelOf 39 = .ok (.iload 5, 2) := by decide +kernel
theorem dX12_levelOf_41 : decode cX12_levelOf 41 = .ok (.iconst 1, 1) := by decide +kernel
theorem dX12_levelOf_42 : decode cX12_levelOf 42 = .ok (.iadd, 1) := by decide +kernel
theorem dX12_levelOf_43 : decode cX12_levelOf 43 = .ok (.istore_n 3, 1) := by decide +kernel
theorem dX12_levelOf_44 : decode cX12_levelOf 44 = .ok (.goto (-37), 3) := by decide +kernel
theorem dX12_levelOf_47 : decode cX12_levelOf 47 = .ok (.iload_n 3, 1) := by decide +kernel
theorem dX12_levelOf_48 : decode cX12_levelOf 48 = .ok (.ireturn, 1) := by decide +kernel
theorem dX12_plan_0 : decode cX12_plan 0 = .ok (.aload_n 0, 1) := by decide +kernel
theorem dX12_plan_1 : decode cX12_plan 1 = .ok (.iconst 0, 1) := by decide +kernel
theorem dX12_plan_2 : decode cX12_plan 2 = .ok (.putfield 3, 3) := by decide +kernel
theorem dX12_plan_5 : decode cX12_plan 5 = .ok (.aload_n 0, 1) := by decide +kernel
theorem dX12_plan_6 : decode cX12_plan 6 = .ok (.aload_n 0, 1) := by decide +kernel
theorem dX12_plan_7 : decode cX12_plan 7 = .ok (.iload_n 1, 1) := by decide +kernel
theorem dX12_plan_8 : decode cX12_plan 8 = .ok (.invokevirtual 335, 3) := by decide +kernel
theorem dX12_plan_11 : decode cX12_plan 11 = .ok (.iconst 1, 1) := by decide +kernel
theorem dX12_plan_12 : decode cX12_plan 12 = .ok (.invokevirtual 253, 3) := by decide +kernel
theorem dX12_plan_15 : decode cX12_plan 15 = .ok (.ifCond .ne 26, 3) := by decide +kernel
theorem dX12_plan_18 : decode cX12_plan 18 = .ok (.aload_n 0, 1) := by decide +kernel
theorem dX12_plan_19 : decode cX12_plan 19 = .ok (.iload_n 2, 1) := by decide +kernel
theorem dX12_plan_20 : decode cX12_plan 20 = .ok (.iconst 1, 1) := by decide +kernel
theorem dX12_plan_21 : decode cX12_plan 21 = .ok (.bipush 40, 2) := by decide +kernel
theorem dX12_plan_23 : decode cX12_plan 23 = .ok (.invokestatic 78, 3) := by decide +kernel
theorem dX12_plan_26 : decode cX12_plan 26 = .ok (.ifCond .ne 7, 3) := by decide +kernel
theorem dX12_plan_29 : decode cX12_plan 29 = .ok (.iconst 1, 1) := by decide +kernel
theorem dX12_plan_30 : decode cX12_plan 30 = .ok (.goto 4, 3) := by decide +kernel
theorem dX12_plan_33 : decode cX12_plan 33 = .ok (.iconst 0, 1) := by decide +kernel
theorem dX12_plan_34 : decode cX12_plan 34 = .ok (.iconst 2, 1) := by decide +kernel
theorem dX12_plan_35 : decode cX12_plan 35 = .ok (.invokevirtual 253, 3) := by decide +kernel
theorem dX12_plan_38 : decode cX12_plan 38 = .ok (.ifCond .eq 5, 3) := by decide +kernel
theorem dX12_plan_41 : decode cX12_plan 41 = .ok (.iconst 0, 1) := by decide +kernel
theorem dX12_plan_42 : decode cX12_plan 42 = .ok (.ireturn, 1) := by decide +kernel
theorem dX12_plan_43 : decode cX12_plan 43 = .ok (.aload_n 0, 1) := by decide +kernel
theorem dX12_plan_44 : decode cX12_plan 44 = .ok (.iload_n 1, 1) := by decide +kernel
theorem dX12_plan_45 : decode cX12_plan 45 = .ok (.iload_n 2, 1) := by decide +kernel
theorem dX12_plan_46 : decode cX12_plan 46 = .ok (.invokevirtual 370, 3) := by decide +kernel
theorem dX12_plan_49 : decode cX12_plan 49 = .ok (.istore 4, 2) := by decide +kernel
theorem dX12_plan_51 : decode cX12_plan 51 = .ok (.iload_n 3, 1) := by decide +kernel
theorem dX12_plan_52 : decode cX12_plan 52 = .ok (.iconst (-1), 1) := by decide +kernel
theorem dX12_plan_53 : decode cX12_plan 53 = .ok (.if_icmp .ne 6, 3) := by decide +kernel
theorem dX12_plan_56 : decode cX12_plan 56 = .ok (.iload 4, 2) := by decide +kernel
theorem dX12_plan_58 : decode cX12_plan 58 = .ok (.ireturn, 1) := by decide +kernel
theorem dX12_plan_59 : decode cX12_plan 59 = .ok (.iload_n 3, 1) := by decide +kernel
theorem dX12_plan_60 : decode cX12_plan 60 = .ok (.iconst 0, 1) := by decide +kernel
theorem dX12_plan_61 : decode cX12_plan 61 = .ok (.iload_n 2, 1) := by decide +kernel
theorem dX12_plan_62 : decode cX12_plan 62 = .ok (.iconst 1, 1) := by decide +kernel
theorem dX12_plan_63 : decode cX12_plan 63 = .ok (.isub, 1) := by decide +kernel
theorem dX12_plan_64 : decode cX12_plan 64 = .ok (.invokestatic 78, 3) := by decide +kernel
theorem dX12_plan_67 : decode cX12_plan 67 = .ok (.ifCond .ne 5, 3) := by decide +kernel
theorem dX12_plan_70 : decode cX12_plan 70 = .ok (.iconst (-1), 1) := by decide +kernel
theorem dX12_plan_71 : decode cX12_plan 71 = .ok (.ireturn, 1) := by decide +kernel
theorem dX12_plan_72 : decode cX12_plan 72 = .ok (.aload_n 0, 1) := by decide +kernel
theorem dX12_plan_73 : decode cX12_plan 73 = .ok (.iload_n 1, 1) := by decide +kernel
theorem dX12_plan_74 : decode cX12_plan 74 = .ok (.iconst 1, 1) := by decide +kernel
theorem dX12_plan_75 : decode cX12_plan 75 = .ok (.invokevirtual 68, 3) := by decide +kernel
theorem dX12_plan_78 : decode cX12_plan 78 = .ok (.istore 5, 2) := by decide +kernel
theorem dX12_plan_80 : decode cX12_plan 80 = .ok (.iconst 0, 1) := by decide +kernel
theorem dX12_plan_81 : decode cX12_plan 81 = .ok (.istore 6, 2) := by decide +kernel
theorem dX12_plan_83 : decode cX12_plan 83 = .ok (.iconst 0, 1) := by decide +kernel
theorem dX12_plan_84 : decode cX12_plan 84 = .ok (.istore 7, 2) := by decide +kernel
theorem dX12_plan_86 : decode cX12_plan 86 = .ok (.iload 7, 2) := by decide +kernel
theorem dX12_plan_88 : decode cX12_plan 88 = .ok (.iload_n 3, 1) := by decide +kernel
theorem dX12_plan_89 : decode cX12_plan 89 = .ok (.if_icmp .gt 44, 3) := by decide +kernel
theorem dX12_plan_92 : decode cX12_plan 92 = .ok (.iload 5, 2) := by decide +kernel
theorem dX12_plan_94 : decode cX12_plan 94 = .ok (.iconst 0, 1) := by decide +kernel
theorem dX12_plan_95 : decode cX12_plan 95 = .ok (.iload 4, 2) := by decide +kernel
theorem dX12_plan_97 : decode cX12_plan 97 = .ok (.aload_n 0, 1) := by decide +kernel
theorem dX12_plan_98 : decode cX12_plan 98 = .ok (.iload_n 1, 1) := by decide +kernel
theorem dX12_plan_99 : decode cX12_plan 99 = .ok (.aload_n 0, 1) := by decide +kernel
theorem dX12_plan_100 : decode cX12_plan 100 = .ok (.getfield 13, 3) := by decide +kernel
theorem dX12_plan_103 : decode cX12_plan 103 = .ok (.iconst 3, 1) := by decide +kernel
theorem dX12_plan_104 : decode cX12_plan 104 = .ok (.iaload, 1) := by decide +kernel
theorem dX12_plan_105 : decode cX12_plan 105 = .ok (.iload 7, 2) := by decide +kernel
theorem dX12_plan_107 : decode cX12_plan 107 = .ok (.iadd, 1) := by decide +kernel
theorem dX12_plan_108 : decode cX12_plan 108 = .ok (.invokevirtual 283, 3) := by decide +kernel
theorem dX12_plan_111 : decode cX12_plan 111 = .ok (.isub, 1) := by decide +kernel
theorem dX12_plan_112 : decode cX12_plan 112 = .ok (.invokestatic 280, 3) := by decide +kernel
theorem dX12_plan_115 : decode cX12_plan 115 = .ok (.invokestatic 275, 3) := by decide +kernel
theorem dX12_plan_118 : decode cX12_plan 118 = .ok (.istore 6, 2) := by decide +kernel
theorem dX12_plan_120 : decode cX12_plan 120 = .ok (.iload 5, 2) := by decide +kernel
theorem dX12_plan_122 : decode cX12_plan 122 = .ok (.iload 6, 2) := by decide +kernel
theorem dX12_plan_124 : decode cX12_plan 124 = .ok (.isub, 1) := by decide +kernel
theorem dX12_plan_125 : decode cX12_plan 125 = .ok (.istore 5, 2) := by decide +kernel
theorem dX12_plan_127 : decode cX12_plan 127 = .ok (.iinc 7 1, 3) := by decide +kernel
theorem dX12_plan_130 : decode cX12_plan 130 = .ok (.goto (-44), 3) := by decide +kernel
theorem dX12_plan_133 : decode cX12_plan 133 = .ok (.iload 6, 2) := by decide +kernel
theorem dX12_plan_135 : decode cX12_plan 135 = .ok (.ireturn, 1) := by decide +kernel
theorem dX12_cost_0 : decode cX12_cost 0 = .ok (.aload_n 0, 1) := by decide +kernel
theorem dX12_cost_1 : decode cX12_cost 1 = .ok (.iconst 0, 1) := by decide +kernel
theorem dX12_cost_2 : decode cX12_cost 2 = .ok (.putfield 3, 3) := by decide +kernel
theorem dX12_cost_5 : decode cX12_cost 5 = .ok (.aload_n 0, 1) := by decide +kernel
theorem dX12_cost_6 : decode cX12_cost 6 = .ok (.aload_n 0, 1) := by decide +kernel
theorem dX12_cost_7 : decode cX12_cost 7 = .ok (.iload_n 1, 1) := by decide +kernel
theorem dX12_cost_8 : decode cX12_cost 8 = .ok (.invokevirtual 335, 3) := by decide +kernel
theorem dX12_cost_11 : decode cX12_cost 11 = .ok (.iconst 1, 1) := by decide +kernel
theorem dX12_cost_12 : decode cX12_cost 12 = .ok (.invokevirtual 253, 3) := by decide +kernel
theorem dX12_cost_15 : decode cX12_cost 15 = .ok (.ifCond .ne 26, 3) := by decide +kernel
theorem dX12_cost_18 : decode cX12_cost 18 = .ok (.aload_n 0, 1) := by decide +kernel
theorem dX12_cost_19 : decode cX12_cost 19 = .ok (.iload_n 2, 1) := by decide +kernel
theorem dX12_cost_20 : decode cX12_cost 20 = .ok (.iconst 0, 1) := by decide +kernel
theorem dX12_cost_21 : decode cX12_cost 21 = .ok (.bipush 60, 2) := by decide +kernel
theorem dX12_cost_23 : decode cX12_cost 23 = .ok (.invokestatic 78, 3) := by decide +kernel
theorem dX12_cost_26 : decode cX12_cost 26 = .ok (.ifCond .ne 7, 3) := by decide +kernel
theorem dX12_cost_29 : decode cX12_cost 29 = .ok (.iconst 1, 1) := by decide +kernel
theorem dX12_cost_30 : decode cX12_cost 30 = .ok (.goto 4, 3) := by decide +kernel
theorem dX12_cost_33 : decode cX12_cost 33 = .ok (.iconst 0, 1) := by decide +kernel
theorem dX12_cost_34 : decode cX12_cost 34 = .ok (.iconst 2, 1) := by decide +kernel
theorem dX12_cost_35 : decode cX12_cost 35 = .ok (.invokevirtual 253, 3) := by decide +kernel
theorem dX12_cost_38 : decode cX12_cost 38 = .ok (.ifCond .eq 5, 3) := by decide +kernel
theorem dX12_cost_41 : decode cX12_cost 41 = .ok (.iconst 0, 1) := by decide +kernel
theorem dX12_cost_42 : decode cX12_cost 42 = .ok (.ireturn, 1) := by decide +kernel
theorem dX12_cost_43 : decode cX12_cost 43 = .ok (.aload_n 0, 1) := by decide +kernel
theorem dX12_cost_44 : decode cX12_cost 44 = .ok (.iload_n 1, 1) := by decide +kernel
theorem dX12_cost_45 : decode cX12_cost 45 = .ok (.iconst 1, 1) := by decide +kernel
theorem dX12_cost_46 : decode cX12_cost 46 = .ok (.invokevirtual 68, 3) := by decide +kernel
theorem dX12_cost_49 : decode cX12_cost 49 = .ok (.istore_n 3, 1) := by decide +kernel
theorem dX12_cost_50 : decode cX12_cost 50 = .ok (.iconst 0, 1) := by decide +kernel
theorem dX12_cost_51 : decode cX12_cost 51 = .ok (.istore 4, 2) := by decide +kernel
theorem dX12_cost_53 : decode cX12_cost 53 = .ok (.iload 4, 2) := by decide +kernel
theorem dX12_cost_55 : decode cX12_cost 55 = .ok (.iload_n 2, 1) := by decide +kernel
theorem dX12_cost_56 : decode cX12_cost 56 = .ok (.if_icmp .ge 49, 3) := by decide +kernel
theorem dX12_cost_59 : decode cX12_cost 59 = .ok (.aload_n 0, 1) := by decide +kernel
theorem dX12_cost_60 : decode cX12_cost 60 = .ok (.iload_n 1, 1) := by decide +kernel
theorem dX12_cost_61 : decode cX12_cost 61 = .ok (.invokevirtual 296, 3) := by decide +kernel
theorem dX12_cost_64 : decode cX12_cost 64 = .ok (.ifCond .eq 33, 3) := by decide +kernel
theorem dX12_cost_67 : decode cX12_cost 67 = .ok (.aload_n 0, 1) := by decide +kernel
theorem dX12_cost_68 : decode cX12_cost 68 = .ok (.sipush 9999, 3) := by decide +kernel
theorem dX12_cost_71 : decode cX12_cost 71 = .ok (.aload_n 0, 1) := by decide +kernel
theorem dX12_cost_72 : decode cX12_cost 72 = .ok (.getfield 13, 3) := by decide +kernel
theorem dX12_cost_75 : decode cX12_cost 75 = .ok (.iconst 3, 1) := by decide +kernel
theorem dX12_cost_76 : decode cX12_cost 76 = .ok (.iaload, 1) := by decide +kernel
theorem dX12_cost_77 : decode cX12_cost 77 = .ok (.iload 4, 2) := by decide +kernel
theorem dX12_cost_79 : decode cX12_cost 79 = .ok (.iadd, 1) := by decide +kernel
theorem dX12_cost_80 : decode cX12_cost 80 = .ok (.invokestatic 275, 3) := by decide +kernel
theorem dX12_cost_83 : decode cX12_cost 83 = .ok (.invokevirtual 306, 3) := by decide +kernel
theorem dX12_cost_86 : decode cX12_cost 86 = .ok (.ifCond .eq 11, 3) := by decide +kernel
theorem dX12_cost_89 : decode cX12_cost 89 = .ok (.aload_n 0, 1) := by decide +kernel
theorem dX12_cost_90 : decode cX12_cost 90 = .ok (.iload_n 3, 1) := by decide +kernel
theorem dX12_cost_91 : decode cX12_cost 91 = .ok (.invokevirtual 309, 3) := by decide +kernel
theorem dX12_cost_94 : decode cX12_cost 94 = .ok (.goto 4, 3) := by decide +kernel
theorem dX12_cost_97 : decode cX12_cost 97 = .ok (.iload_n 3, 1) := by decide +kernel
theorem dX12_cost_98 : decode cX12_cost 98 = .ok (.istore_n 3, 1) := by decide +kernel
theorem dX12_cost_99 : decode cX12_cost 99 = .ok (.iinc 4 1, 3) := by decide +kernel
theorem dX12_cost_102 : decode cX12_cost 102 = .ok (.goto (-49), 3) := by decide +kernel
theorem dX12_cost_105 : decode cX12_cost 105 = .ok (.iload_n 3, 1) := by decide +kernel
theorem dX12_cost_106 : decode cX12_cost 106 = .ok (.aload_n 0, 1) := by decide +kernel
theorem dX12_cost_107 : decode cX12_cost 107 = .ok (.iload_n 1, 1) := by decide +kernel
theorem dX12_cost_108 : decode cX12_cost 108 = .ok (.iconst 1, 1) := by decide +kernel
theorem dX12_cost_109 : decode cX12_cost 109 = .ok (.invokevirtual 68, 3) := by decide +kernel
theorem dX12_cost_112 : decode cX12_cost 112 = .ok (.isub, 1) := by decide +kernel
theorem dX12_cost_113 : decode cX12_cost 113 = .ok (.ireturn, 1) := by decide +kernel
theorem dX12_netAll_0 : decode cX12_netAll 0 = .ok (.iconst 0, 1) := by decide +kernel
theorem dX12_netAll_1 : decode cX12_netAll 1 = .ok (.istore_n 2, 1) := by decide +kernel
theorem dX12_netAll_2 : decode cX12_netAll 2 = .ok (.iconst 0, 1) := by decide +kernel
theorem dX12_netAll_3 : decode cX12_netAll 3 = .ok (.istore_n 3, 1) := by decide +kernel
theorem dX12_netAll_4 : decode cX12_netAll 4 = .ok (.iload_n 3, 1) := by decide +kernel
theorem dX12_netAll_5 : decode cX12_netAll 5 = .ok (.aload_n 0, 1) := by decide +kernel
theorem dX12_netAll_6 : decode cX12_netAll 6 = .ok (.invokevirtual 74, 3) := by decide +kernel
theorem dX12_netAll_9 : decode cX12_netAll 9 = .ok (.if_icmp .ge 30, 3) := by decide +kernel
theorem dX12_netAll_12 : decode cX12_netAll 12 = .ok (.iload_n 2, 1) := by decide +kernel
theorem dX12_netAll_13 : decode cX12_netAll 13 = .ok (.iload_n 1, 1) := by decide +kernel
theorem dX12_netAll_14 : decode cX12_netAll 14 = .ok (.iload_n 3, 1) := by decide +kernel
theorem dX12_netAll_15 : decode cX12_netAll 15 = .ok (.invokestatic 332, 3) := by decide +kernel
theorem dX12_netAll_18 : decode cX12_netAll 18 = .ok (.ifCond .eq 12, 3) := by decide +kernel
theorem dX12_netAll_21 : decode cX12_netAll 21 = .ok (.aload_n 0, 1) := by decide +kernel
theorem dX12_netAll_22 : decode cX12_netAll 22 = .ok (.getfield 51, 3) := by decide +kernel
theorem dX12_netAll_25 : decode cX12_netAll 25 = .ok (.iload_n 3, 1) := by decide +kernel
theorem dX12_netAll_26 : decode cX12_netAll 26 = .ok (.iaload, 1) := by decide +kernel
theorem dX12_netAll_27 : decode cX12_netAll 27 = .ok (.goto 4, 3) := by decide +kernel
theorem dX12_netAll_30 : decode cX12_netAll 30 = .ok (.iconst 0, 1) := by decide +kernel
theorem dX12_netAll_31 : decode cX12_netAll 31 = .ok (.iadd, 1) := by decide +kernel
theorem dX12_netAll_32 : decode cX12_netAll 32 = .ok (.istore_n 2, 1) := by decide +kernel
theorem dX12_netAll_33 : decode cX12_netAll 33 = .ok (.iinc 3 1, 3) := by decide +kernel
theorem dX12_netAll_36 : decode cX12_netAll 36 = .ok (.goto (-32), 3) := by decide +kernel
theorem dX12_netAll_39 : decode cX12_netAll 39 = .ok (.iload_n 2, 1) := by decide +kernel
theorem dX12_netAll_40 : decode cX12_netAll 40 = .ok (.ireturn, 1) := by decide +kernel
theorem dX12_zerosOf_0 : decode cX12_zerosOf 0 = .ok (.aload_n 0, 1) := by decide +kernel
theorem dX12_zerosOf_1 : decode cX12_zerosOf 1 = .ok (.iload_n 1, 1) := by decide +kernel
theorem dX12_zerosOf_2 : decode cX12_zerosOf 2 = .ok (.invokevirtual 373, 3) := by decide +kernel
theorem dX12_zerosOf_5 : decode cX12_zerosOf 5 = .ok (.ifCond .eq 5, 3) := by decide +kernel
theorem dX12_zerosOf_8 : decode cX12_zerosOf 8 = .ok (.iconst (-1), 1) := by decide +kernel
theorem dX12_zerosOf_9 : decode cX12_zerosOf 9 = .ok (.ireturn, 1) := by decide +kernel
theorem dX12_zerosOf_10 : decode cX12_zerosOf 10 = .ok (.iconst 1, 1) := by decide +kernel
theorem dX12_zerosOf_11 : decode cX12_zerosOf 11 = .ok (.istore_n 2, 1) := by decide +kernel
theorem dX12_zerosOf_12 : decode cX12_zerosOf 12 = .ok (.iload_n 1, 1) := by decide +kernel
theorem dX12_zerosOf_13 : decode cX12_zerosOf 13 = .ok (.iconst 1, 1) := by decide +kernel
theorem dX12_zerosOf_14 : decode cX12_zerosOf 14 = .ok (.isub, 1) := by decide +kernel
theorem dX12_zerosOf_15 : decode cX12_zerosOf 15 = .ok (.iload_n 1, 1) := by decide +kernel
theorem dX12_zerosOf_16 : decode cX12_zerosOf 16 = .ok (.iand, 1) := by decide +kernel
theorem dX12_zerosOf_17 : decode cX12_zerosOf 17 = .ok (.istore_n 3, 1) := by decide +kernel
theorem dX12_zerosOf_18 : decode cX12_zerosOf 18 = .ok (.iload_n 3, 1) := by decide +kernel
theorem dX12_zerosOf_19 : decode cX12_zerosOf 19 = .ok (.ifCond .le 56, 3) := by decide +kernel
theorem dX12_zerosOf_22 : decode cX12_zerosOf 22 = .ok (.aload_n 0, 1) := by decide +kernel
theorem dX12_zerosOf_23 : decode cX12_zerosOf 23 = .ok (.getfield 54, 3) := by decide +kernel
theorem dX12_zerosOf_26 : decode cX12_zerosOf 26 = .ok (.iload_n 3, 1) := by decide +kernel
theorem dX12_zerosOf_27 : decode cX12_zerosOf 27 = .ok (.iaload, 1) := by decide +kernel
theorem dX12_zerosOf_28 : decode cX12_zerosOf 28 = .ok (.ifCond .le 38, 3) := by decide +kernel
theorem dX12_zerosOf_31 : decode cX12_zerosOf 31 = .ok (.aload_n 0, 1) := by decide +kernel
theorem dX12_zerosOf_32 : decode cX12_zerosOf 32 = .ok (.getfield 54, 3) := by decide +kernel
theorem dX12_zerosOf_35 : decode cX12_zerosOf 35 = .ok (.iload_n 1, 1) := by decide +kernel
theorem dX12_zerosOf_36 : decode cX12_zerosOf 36 = .ok (.iload_n 3, 1) := by decide +kernel
theorem dX12_zerosOf_37 : decode cX12_zerosOf 37 = .ok (.iconst (-1), 1) := by decide +kernel
theorem dX12_zerosOf_38 : decode cX12_zerosOf 38 = .ok (.ixor, 1) := by decide +kernel
theorem dX12_zerosOf_39 : decode cX12_zerosOf 39 = .ok (.iand, 1) := by decide +kernel
theorem dX12_zerosOf_40 : decode cX12_zerosOf 40 = .ok (.iaload, 1) := by decide +kernel
theorem dX12_zerosOf_41 : decode cX12_zerosOf 41 = .ok (.ifCond .le 25, 3) := by decide +kernel
theorem dX12_zerosOf_44 : decode cX12_zerosOf 44 = .ok (.iload_n 2, 1) := by decide +kernel
theorem dX12_zerosOf_45 : decode cX12_zerosOf 45 = .ok (.aload_n 0, 1) := by decide +kernel
theorem dX12_zerosOf_46 : decode cX12_zerosOf 46 = .ok (.getfield 54, 3) := by decide +kernel
theorem dX12_zerosOf_49 : decode cX12_zerosOf 49 = .ok (.iload_n 3, 1) := by decide +kernel
theorem dX12_zerosOf_50 : decode cX12_zerosOf 50 = .ok (.iaload, 1) := by decide +kernel
theorem dX12_zerosOf_51 : decode cX12_zerosOf 51 = .ok (.aload_n 0, 1) := by decide +kernel
theorem dX12_zerosOf_52 : decode cX12_zerosOf 52 = .ok (.getfield 54, 3) := by decide +kernel
theorem dX12_zerosOf_55 : decode cX12_zerosOf 55 = .ok (.iload_n 1, 1) := by decide +kernel
theorem dX12_zerosOf_56 : decode cX12_zerosOf 56 = .ok (.iload_n 3, 1) := by decide +kernel
theorem dX12_zerosOf_57 : decode cX12_zerosOf 57 = .ok (.iconst (-1), 1) := by decide +kernel
theorem dX12_zerosOf_58 : decode cX12_zerosOf 58 = .ok (.ixor, 1) := by decide +kernel
theorem dX12_zerosOf_59 : decode cX12_zerosOf 59 = .ok (.iand, 1) := by decide +kernel
theorem dX12_zerosOf_60 : decode cX12_zerosOf 60 = .ok (.iaload, 1) := by decide +kernel
theorem dX12_zerosOf_61 : decode cX12_zerosOf 61 = .ok (.iadd, 1) := by decide +kernel
theorem dX12_zerosOf_62 : decode cX12_zerosOf 62 = .ok (.invokestatic 280, 3) := by decide +kernel
theorem dX12_zerosOf_65 : decode cX12_zerosOf 65 = .ok (.istore_n 2, 1) := by decide +kernel
theorem dX12_zerosOf_66 : decode cX12_zerosOf 66 = .ok (.iload_n 3, 1) := by decide +kernel
theorem dX12_zerosOf_67 : decode cX12_zerosOf 67 = .ok (.iconst 1, 1) := by decide +kernel
theorem dX12_zerosOf_68 : decode cX12_zerosOf 68 = .ok (.isub, 1) := by decide +kernel
theorem dX12_zerosOf_69 : decode cX12_zerosOf 69 = .ok (.iload_n 1, 1) := by decide +kernel
theorem dX12_zerosOf_70 : decode cX12_zerosOf 70 = .ok (.iand, 1) := by decide +kernel
theorem dX12_zerosOf_71 : decode cX12_zerosOf 71 = .ok (.istore_n 3, 1) := by decide +kernel
theorem dX12_zerosOf_72 : decode cX12_zerosOf 72 = .ok (.goto (-54), 3) := by decide +kernel
theorem dX12_zerosOf_75 : decode cX12_zerosOf 75 = .ok (.iload_n 2, 1) := by decide +kernel
theorem dX12_zerosOf_76 : decode cX12_zerosOf 76 = .ok (.ireturn, 1) := by decide +kernel
theorem dX12_netted_0 : decode cX12_netted 0 = .ok (.aload_n 0, 1) := by decide +kernel
theorem dX12_netted_1 : decode cX12_netted 1 = .ok (.iconst 0, 1) := by decide +kernel
theorem dX12_netted_2 : decode cX12_netted 2 = .ok (.putfield 3, 3) := by decide +kernel
theorem dX12_netted_5 : decode cX12_netted 5 = .ok (.aload_n 0, 1) := by decide +kernel
theorem dX12_netted_6 : decode cX12_netted 6 = .ok (.invokevirtual 359, 3) := by decide +kernel
theorem dX12_netted_9 : decode cX12_netted 9 = .ok (.iconst 0, 1) := by decide +kernel
theorem dX12_netted_10 : decode cX12_netted 10 = .ok (.istore_n 1, 1) := by decide +kernel
theorem dX12_netted_11 : decode cX12_netted 11 = .ok (.iconst 0, 1) := by decide +kernel
theorem dX12_netted_12 : decode cX12_netted 12 = .ok (.istore_n 2, 1) := by decide +kernel
theorem dX12_netted_13 : decode cX12_netted 13 = .ok (.iload_n 2, 1) := by decide +kernel
theorem dX12_netted_14 : decode cX12_netted 14 = .ok (.aload_n 0, 1) := by decide +kernel
theorem dX12_netted_15 : decode cX12_netted 15 = .ok (.invokevirtual 74, 3) := by decide +kernel
theorem dX12_netted_18 : decode cX12_netted 18 = .ok (.if_icmp .ge 28, 3) := by decide +kernel
theorem dX12_netted_21 : decode cX12_netted 21 = .ok (.iload_n 1, 1) := by decide +kernel
theorem dX12_netted_22 : decode cX12_netted 22 = .ok (.aload_n 0, 1) := by decide +kernel
theorem dX12_netted_23 : decode cX12_netted 23 = .ok (.getfield 51, 3) := by decide +kernel
theorem dX12_netted_26 : decode cX12_netted 26 = .ok (.iload_n 2, 1) := by decide +kernel
theorem dX12_netted_27 : decode cX12_netted 27 = .ok (.iaload, 1) := by decide +kernel
theorem dX12_netted_28 : decode cX12_netted 28 = .ok (.ifCond .eq 9, 3) := by decide +kernel
theorem dX12_netted_31 : decode cX12_netted 31 = .ok (.iconst 1, 1) := by decide +kernel
theorem dX12_netted_32 : decode cX12_netted 32 = .ok (.iload_n 2, 1) := by decide +kernel
theorem dX12_netted_33 : decode cX12_netted 33 = .ok (.ishl, 1) := by decide +kernel
theorem dX12_netted_34 : decode cX12_netted 34 = .ok (.goto 4, 3) := by decide +kernel
theorem dX12_netted_37 : decode cX12_netted 37 = .ok (.iconst 0, 1) := by decide +kernel
theorem dX12_netted_38 : decode cX12_netted 38 = .ok (.ior, 1) := by decide +kernel
theorem dX12_netted_39 : decode cX12_netted 39 = .ok (.istore_n 1, 1) := by decide +kernel
theorem dX12_netted_40 : decode cX12_netted 40 = .ok (.iinc 2 1, 3) := by decide +kernel
theorem dX12_netted_43 : decode cX12_netted 43 = .ok (.goto (-30), 3) := by decide +kernel
theorem dX12_netted_46 : decode cX12_netted 46 = .ok (.iconst 1, 1) := by decide +kernel
theorem dX12_netted_47 : decode cX12_netted 47 = .ok (.istore_n 2, 1) := by decide +kernel
theorem dX12_netted_48 : decode cX12_netted 48 = .ok (.iload_n 2, 1) := by decide +kernel
theorem dX12_netted_49 : decode cX12_netted 49 = .ok (.iload_n 1, 1) := by decide +kernel
theorem dX12_netted_50 : decode cX12_netted 50 = .ok (.if_icmp .gt 20, 3) := by decide +kernel
theorem dX12_netted_53 : decode cX12_netted 53 = .ok (.aload_n 0, 1) := by decide +kernel
theorem dX12_netted_54 : decode cX12_netted 54 = .ok (.getfield 54, 3) := by decide +kernel
theorem dX12_netted_57 : decode cX12_netted 57 = .ok (.iload_n 2, 1) := by decide +kernel
theorem dX12_netted_58 : decode cX12_netted 58 = .ok (.aload_n 0, 1) := by decide +kernel
theorem dX12_netted_59 : decode cX12_netted 59 = .ok (.iload_n 2, 1) := by decide +kernel
theorem dX12_netted_60 : decode cX12_netted 60 = .ok (.invokevirtual 376, 3) := by decide +kernel
theorem dX12_netted_63 : decode cX12_netted 63 = .ok (.iastore, 1) := by decide +kernel
theorem dX12_netted_64 : decode cX12_netted 64 = .ok (.iinc 2 1, 3) := by decide +kernel
theorem dX12_netted_67 : decode cX12_netted 67 = .ok (.goto (-19), 3) := by decide +kernel
theorem dX12_netted_70 : decode cX12_netted 70 = .ok (.iload_n 1, 1) := by decide +kernel
theorem dX12_netted_71 : decode cX12_netted 71 = .ok (.ifCond .ne 7, 3) := by decide +kernel
theorem dX12_netted_74 : decode cX12_netted 74 = .ok (.iconst 0, 1) := by decide +kernel
theorem dX12_netted_75 : decode cX12_netted 75 = .ok (.goto 14, 3) := by decide +kernel
theorem dX12_netted_78 : decode cX12_netted 78 = .ok (.iload_n 1, 1) := by decide +kernel
theorem dX12_netted_79 : decode cX12_netted 79 = .ok (.invokestatic 379, 3) := by decide +kernel
theorem dX12_netted_82 : decode cX12_netted 82 = .ok (.aload_n 0, 1) := by decide +kernel
theorem dX12_netted_83 : decode cX12_netted 83 = .ok (.getfield 54, 3) := by decide +kernel
theorem dX12_netted_86 : decode cX12_netted 86 = .ok (.iload_n 1, 1) := by decide +kernel
theorem dX12_netted_87 : decode cX12_netted 87 = .ok (.iaload, 1) := by decide +kernel
theorem dX12_netted_88 : decode cX12_netted 88 = .ok (.isub, 1) := by decide +kernel
theorem dX12_netted_89 : decode cX12_netted 89 = .ok (.ireturn, 1) := by decide +kernel
theorem dX12_owesTo_0 : decode cX12_owesTo 0 = .ok (.iconst 0, 1) := by decide +kernel
theorem dX12_owesTo_1 : decode cX12_owesTo 1 = .ok (.istore_n 2, 1) := by decide +kernel
theorem dX12_owesTo_2 : decode cX12_owesTo 2 = .ok (.iconst 0, 1) := by decide +kernel
theorem dX12_owesTo_3 : decode cX12_owesTo 3 = .ok (.istore_n 3, 1) := by decide +kernel
theorem dX12_owesTo_4 : decode cX12_owesTo 4 = .ok (.iload_n 3, 1) := by decide +kernel
theorem dX12_owesTo_5 : decode cX12_owesTo 5 = .ok (.aload_n 0, 1) := by decide +kernel
theorem dX12_owesTo_6 : decode cX12_owesTo 6 = .ok (.invokevirtual 74, 3) := by decide +kernel
theorem dX12_owesTo_9 : decode cX12_owesTo 9 = .ok (.if_icmp .ge 56, 3) := by decide +kernel
theorem dX12_owesTo_12 : decode cX12_owesTo 12 = .ok (.iconst 0, 1) := by decide +kernel
theorem dX12_owesTo_13 : decode cX12_owesTo 13 = .ok (.istore 4, 2) := by decide +kernel
theorem dX12_owesTo_15 : decode cX12_owesTo 15 = .ok (.iload 4, 2) := by decide +kernel
theorem dX12_owesTo_17 : decode cX12_owesTo 17 = .ok (.aload_n 0, 1) := by decide +kernel
theorem dX12_owesTo_18 : decode cX12_owesTo 18 = .ok (.invokevirtual 74, 3) := by decide +kernel
theorem dX12_owesTo_21 : decode cX12_owesTo 21 = .ok (.if_icmp .ge 38, 3) := by decide +kernel
theorem dX12_owesTo_24 : decode cX12_owesTo 24 = .ok (.iload_n 2, 1) := by decide +kernel
theorem dX12_owesTo_25 : decode cX12_owesTo 25 = .ok (.iload_n 1, 1) := by decide +kernel
theorem dX12_owesTo_26 : decode cX12_owesTo 26 = .ok (.iload_n 3, 1) := by decide +kernel
theorem dX12_owesTo_27 : decode cX12_owesTo 27 = .ok (.invokestatic 332, 3) := by decide +kernel
theorem dX12_owesTo_30 : decode cX12_owesTo 30 = .ok (.ifCond .eq 20, 3) := by decide +kernel
theorem dX12_owesTo_33 : decode cX12_owesTo 33 = .ok (.aload_n 0, 1) := by decide +kernel
theorem dX12_owesTo_34 : decode cX12_owesTo 34 = .ok (.iload_n 3, 1) := by decide +kernel
theorem dX12_owesTo_35 : decode cX12_owesTo 35 = .ok (.iload 4, 2) := by decide +kernel
theorem dX12_owesTo_37 : decode cX12_owesTo 37 = .ok (.invokevirtual 329, 3) := by decide +kernel
theorem dX12_owesTo_40 : decode cX12_owesTo 40 = .ok (.ifCond .le 10, 3) := by decide +kernel
theorem dX12_owesTo_43 : decode cX12_owesTo 43 = .ok (.iconst 1, 1) := by decide +kernel
theorem dX12_owesTo_44 : decode cX12_owesTo 44 = .ok (.iload 4, 2) := by decide +kernel
theorem dX12_owesTo_46 : decode cX12_owesTo 46 = .ok (.ishl, 1) := by decide +kernel
theorem dX12_owesTo_47 : decode cX12_owesTo 47 = .ok (.goto 4, 3) := by decide +kernel
theorem dX12_owesTo_50 : decode cX12_owesTo 50 = .ok (.iconst 0, 1) := by decide +kernel
theorem dX12_owesTo_51 : decode cX12_owesTo 51 = .ok (.ior, 1) := by decide +kernel
theorem dX12_owesTo_52 : decode cX12_owesTo 52 = .ok (.istore_n 2, 1) := by decide +kernel
theorem dX12_owesTo_53 : decode cX12_owesTo 53 = .ok (.iinc 4 1, 3) := by decide +kernel
theorem dX12_owesTo_56 : decode cX12_owesTo 56 = .ok (.goto (-41), 3) := by decide +kernel
theorem dX12_owesTo_59 : decode cX12_owesTo 59 = .ok (.iinc 3 1, 3) := by decide +kernel
theorem dX12_owesTo_62 : decode cX12_owesTo 62 = .ok (.goto (-58), 3) := by decide +kernel
theorem dX12_owesTo_65 : decode cX12_owesTo 65 = .ok (.iload_n 2, 1) := by decide +kernel
theorem dX12_owesTo_66 : decode cX12_owesTo 66 = .ok (.ireturn, 1) := by decide +kernel
theorem dX12_ring_0 : decode cX12_ring 0 = .ok (.aload_n 0, 1) := by decide +kernel
theorem dX12_ring_1 : decode cX12_ring 1 = .ok (.iconst 0, 1) := by decide +kernel
theorem dX12_ring_2 : decode cX12_ring 2 = .ok (.putfield 3, 3) := by decide +kernel
theorem dX12_ring_5 : decode cX12_ring 5 = .ok (.aload_n 0, 1) := by decide +kernel
theorem dX12_ring_6 : decode cX12_ring 6 = .ok (.aload_n 0, 1) := by decide +kernel
theorem dX12_ring_7 : decode cX12_ring 7 = .ok (.iload_n 1, 1) := by decide +kernel
theorem dX12_ring_8 : decode cX12_ring 8 = .ok (.invokevirtual 335, 3) := by decide +kernel
theorem dX12_ring_11 : decode cX12_ring 11 = .ok (.iconst 1, 1) := by decide +kernel
theorem dX12_ring_12 : decode cX12_ring 12 = .ok (.invokevirtual 253, 3) := by decide +kernel
theorem dX12_ring_15 : decode cX12_ring 15 = .ok (.ifCond .eq 5, 3) := by decide +kernel
theorem dX12_ring_18 : decode cX12_ring 18 = .ok (.iconst 0, 1) := by decide +kernel
theorem dX12_ring_19 : decode cX12_ring 19 = .ok (.ireturn, 1) := by decide +kernel
theorem dX12_ring_20 : decode cX12_ring 20 = .ok (.iconst 1, 1) := by decide +kernel
theorem dX12_ring_21 : decode cX12_ring 21 = .ok (.iload_n 1, 1) := by decide +kernel
theorem dX12_ring_22 : decode cX12_ring 22 = .ok (.ishl, 1) := by decide +kernel
theorem dX12_ring_23 : decode cX12_ring 23 = .ok (.istore_n 2, 1) := by decide +kernel
theorem dX12_ring_24 : decode cX12_ring 24 = .ok (.iconst 1, 1) := by decide +kernel
theorem dX12_ring_25 : decode cX12_ring 25 = .ok (.istore_n 3, 1) := by decide +kernel
theorem dX12_ring_26 : decode cX12_ring 26 = .ok (.iload_n 3, 1) := by decide +kernel
theorem dX12_ring_27 : decode cX12_ring 27 = .ok (.aload_n 0, 1) := by decide +kernel
theorem dX12_ring_28 : decode cX12_ring 28 = .ok (.invokevirtual 74, 3) := by decide +kernel
theorem dX12_ring_31 : decode cX12_ring 31 = .ok (.if_icmp .gt 25, 3) := by decide +kernel
theorem dX12_ring_34 : decode cX12_ring 34 = .ok (.aload_n 0, 1) := by decide +kernel
theorem dX12_ring_35 : decode cX12_ring 35 = .ok (.iload_n 2, 1) := by decide +kernel
theorem dX12_ring_36 : decode cX12_ring 36 = .ok (.invokevirtual 384, 3) := by decide +kernel
theorem dX12_ring_39 : decode cX12_ring 39 = .ok (.istore_n 2, 1) := by decide +kernel
theorem dX12_ring_40 : decode cX12_ring 40 = .ok (.iload_n 2, 1) := by decide +kernel
theorem dX12_ring_41 : decode cX12_ring 41 = .ok (.iload_n 1, 1) := by decide +kernel
theorem dX12_ring_42 : decode cX12_ring 42 = .ok (.invokestatic 332, 3) := by decide +kernel
theorem dX12_ring_45 : decode cX12_ring 45 = .ok (.ifCond .eq 5, 3) := by decide +kernel
theorem dX12_ring_48 : decode cX12_ring 48 = .ok (.iload_n 3, 1) := by decide +kernel
theorem dX12_ring_49 : decode cX12_ring 49 = .ok (.ireturn, 1) := by decide +kernel
theorem dX12_ring_50 : decode cX12_ring 50 = .ok (.iinc 3 1, 3) := by decide +kernel
theorem dX12_ring_53 : decode cX12_ring 53 = .ok (.goto (-27), 3) := by decide +kernel
theorem dX12_ring_56 : decode cX12_ring 56 = .ok (.iconst (-1), 1) := by decide +kernel
theorem dX12_ring_57 : decode cX12_ring 57 = .ok (.ireturn, 1) := by decide +kernel
theorem dX12_strike_0 : decode cX12_strike 0 = .ok (.aload_n 0, 1) := by decide +kernel
theorem dX12_strike_1 : decode cX12_strike 1 = .ok (.iconst 0, 1) := by decide +kernel
theorem dX12_strike_2 : decode cX12_strike 2 = .ok (.putfield 3, 3) := by decide +kernel
theorem dX12_strike_5 : decode cX12_strike 5 = .ok (.iconst 0, 1) := by decide +kernel
theorem dX12_strike_6 : decode cX12_strike 6 = .ok (.istore_n 1, 1) := by decide +kernel
theorem dX12_strike_7 : decode cX12_strike 7 = .ok (.iconst 0, 1) := by decide +kernel
theorem dX12_strike_8 : decode cX12_strike 8 = .ok (.istore_n 2, 1) := by decide +kernel
theorem dX12_strike_9 : decode cX12_strike 9 = .ok (.iload_n 2, 1) := by decide +kernel
theorem dX12_strike_10 : decode cX12_strike 10 = .ok (.aload_n 0, 1) := by decide +kernel
theorem dX12_strike_11 : decode cX12_strike 11 = .ok (.invokevirtual 74, 3) := by decide +kernel
theorem dX12_strike_14 : decode cX12_strike 14 = .ok (.if_icmp .ge 40, 3) := by decide +kernel
theorem dX12_strike_17 : decode cX12_strike 17 = .ok (.iconst 0, 1) := by decide +kernel
theorem dX12_strike_18 : decode cX12_strike 18 = .ok (.istore_n 3, 1) := by decide +kernel
theorem dX12_strike_19 : decode cX12_strike 19 = .ok (.iload_n 3, 1) := by decide +kernel
theorem dX12_strike_20 : decode cX12_strike 20 = .ok (.iload_n 2, 1) := by decide +kernel
theorem dX12_strike_21 : decode cX12_strike 21 = .ok (.if_icmp .ge 27, 3) := by decide +kernel
theorem dX12_strike_24 : decode cX12_strike 24 = .ok (.iload_n 1, 1) := by decide +kernel
theorem dX12_strike_25 : decode cX12_strike 25 = .ok (.aload_n 0, 1) := by decide +kernel
theorem dX12_strike_26 : decode cX12_strike 26 = .ok (.iload_n 2, 1) := by decide +kernel
theorem dX12_strike_27 : decode cX12_strike 27 = .ok (.iload_n 3, 1) := by decide +kernel
theorem dX12_strike_28 : decode cX12_strike 28 = .ok (.invokevirtual 329, 3) := by decide +kernel
theorem dX12_strike_31 : decode cX12_strike 31 = .ok (.aload_n 0, 1) := by decide +kernel
theorem dX12_strike_32 : decode cX12_strike 32 = .ok (.iload_n 3, 1) := by decide +kernel
theorem dX12_strike_33 : decode cX12_strike 33 = .ok (.iload_n 2, 1) := by decide +kernel
theorem dX12_strike_34 : decode cX12_strike 34 = .ok (.invokevirtual 329, 3) := by decide +kernel
theorem dX12_strike_37 : decode cX12_strike 37 = .ok (.invokestatic 275, 3) := by decide +kernel
theorem dX12_strike_40 : decode cX12_strike 40 = .ok (.iadd, 1) := by decide +kernel
theorem dX12_strike_41 : decode cX12_strike 41 = .ok (.istore_n 1, 1) := by decide +kernel
theorem dX12_strike_42 : decode cX12_strike 42 = .ok (.iinc 3 1, 3) := by decide +kernel
theorem dX12_strike_45 : decode cX12_strike 45 = .ok (.goto (-26), 3) := by decide +kernel
theorem dX12_strike_48 : decode cX12_strike 48 = .ok (.iinc 2 1, 3) := by decide +kernel
theorem dX12_strike_51 : decode cX12_strike 51 = .ok (.goto (-42), 3) := by decide +kernel
theorem dX12_strike_54 : decode cX12_strike 54 = .ok (.iload_n 1, 1) := by decide +kernel
theorem dX12_strike_55 : decode cX12_strike 55 = .ok (.ireturn, 1) := by decide +kernel
theorem dX12_alive_0 : decode cX12_alive 0 = .ok (.iconst 0, 1) := by decide +kernel
theorem dX12_alive_1 : decode cX12_alive 1 = .ok (.istore_n 1, 1) := by decide +kernel
theorem dX12_alive_2 : decode cX12_alive 2 = .ok (.iconst 0, 1) := by decide +kernel
theorem dX12_alive_3 : decode cX12_alive 3 = .ok (.istore_n 2, 1) := by decide +kernel
theorem dX12_alive_4 : decode cX12_alive 4 = .ok (.iload_n 2, 1) := by decide +kernel
theorem dX12_alive_5 : decode cX12_alive 5 = .ok (.aload_n 0, 1) := by decide +kernel
theorem dX12_alive_6 : decode cX12_alive 6 = .ok (.invokevirtual 74, 3) := by decide +kernel
theorem dX12_alive_9 : decode cX12_alive 9 = .ok (.if_icmp .ge 27, 3) := by decide +kernel
theorem dX12_alive_12 : decode cX12_alive 12 = .ok (.iload_n 1, 1) := by decide +kernel
theorem dX12_alive_13 : decode cX12_alive 13 = .ok (.aload_n 0, 1) := by decide +kernel
theorem dX12_alive_14 : decode cX12_alive 14 = .ok (.iload_n 2, 1) := by decide +kernel
theorem dX12_alive_15 : decode cX12_alive 15 = .ok (.invokevirtual 296, 3) := by decide +kernel
theorem dX12_alive_18 : decode cX12_alive 18 = .ok (.ifCond .eq 9, 3) := by decide +kernel
theorem dX12_alive_21 : decode cX12_alive 21 = .ok (.iconst 1, 1) := by decide +kernel
theorem dX12_alive_22 : decode cX12_alive 22 = .ok (.iload_n 2, 1) := by decide +kernel
theorem dX12_alive_23 : decode cX12_alive 23 = .ok (.ishl, 1) := by decide +kernel
theorem dX12_alive_24 : decode cX12_alive 24 = .ok (.goto 4, 3) := by decide +kernel
theorem dX12_alive_27 : decode cX12_alive 27 = .ok (.iconst 0, 1) := by decide +kernel
theorem dX12_alive_28 : decode cX12_alive 28 = .ok (.ior, 1) := by decide +kernel
theorem dX12_alive_29 : decode cX12_alive 29 = .ok (.istore_n 1, 1) := by decide +kernel
theorem dX12_alive_30 : decode cX12_alive 30 = .ok (.iinc 2 1, 3) := by decide +kernel
theorem dX12_alive_33 : decode cX12_alive 33 = .ok (.goto (-29), 3) := by decide +kernel
theorem dX12_alive_36 : decode cX12_alive 36 = .ok (.iload_n 1, 1) := by decide +kernel
theorem dX12_alive_37 : decode cX12_alive 37 = .ok (.ireturn, 1) := by decide +kernel
theorem dX12_runFrom_0 : decode cX12_runFrom 0 = .ok (.iload_n 1, 1) := by decide +kernel
theorem dX12_runFrom_1 : decode cX12_runFrom 1 = .ok (.istore_n 2, 1) := by decide +kernel
theorem dX12_runFrom_2 : decode cX12_runFrom 2 = .ok (.iconst (-1), 1) := by decide +kernel
theorem dX12_runFrom_3 : decode cX12_runFrom 3 = .ok (.istore_n 3, 1) := by decide +kernel
theorem dX12_runFrom_4 : decode cX12_runFrom 4 = .ok (.iload_n 2, 1) := by decide +kernel
theorem dX12_runFrom_5 : decode cX12_runFrom 5 = .ok (.iload_n 3, 1) := by decide +kernel
theorem dX12_runFrom_6 : decode cX12_runFrom 6 = .ok (.if_icmp .eq 68, 3) := by decide +kernel
theorem dX12_runFrom_9 : decode cX12_runFrom 9 = .ok (.iload_n 2, 1) := by decide +kernel
theorem dX12_runFrom_10 : decode cX12_runFrom 10 = .ok (.istore_n 3, 1) := by decide +kernel
theorem dX12_runFrom_11 : decode cX12_runFrom 11 = .ok (.iconst 0, 1) := by decide +kernel
theorem dX12_runFrom_12 : decode cX12_runFrom 12 = .ok (.istore 4, 2) := by decide +kernel
theorem dX12_runFrom_14 : decode cX12_runFrom 14 = .ok (.iload 4, 2) := by decide +kernel
theorem dX12_runFrom_16 : decode cX12_runFrom 16 = .ok (.aload_n 0, 1) := by decide +kernel
theorem dX12_runFrom_17 : decode cX12_runFrom 17 = .ok (.invokevirtual 74, 3) := by decide +kernel
theorem dX12_runFrom_20 : decode cX12_runFrom 20 = .ok (.if_icmp .ge 51, 3) := by decide +kernel
theorem dX12_runFrom_23 : decode cX12_runFrom 23 = .ok (.iload_n 2, 1) := by decide +kernel
theorem dX12_runFrom_24 : decode cX12_runFrom 24 = .ok (.aload_n 0, 1) := by decide +kernel
theorem dX12_runFrom_25 : decode cX12_runFrom 25 = .ok (.iload 4, 2) := by decide +kernel
theorem dX12_runFrom_27 : decode cX12_runFrom 27 = .ok (.invokevirtual 296, 3) := by decide +kernel
theorem dX12_runFrom_30 : decode cX12_runFrom 30 = .ok (.ifCond .eq 32, 3) := by decide +kernel
theorem dX12_runFrom_33 : decode cX12_runFrom 33 = .ok (.aload_n 0, 1) := by decide +kernel
theorem dX12_runFrom_34 : decode cX12_runFrom 34 = .ok (.iload 4, 2) := by decide +kernel
theorem dX12_runFrom_36 : decode cX12_runFrom 36 = .ok (.iconst 1, 1) := by decide +kernel
theorem dX12_runFrom_37 : decode cX12_runFrom 37 = .ok (.invokevirtual 68, 3) := by decide +kernel
theorem dX12_runFrom_40 : decode cX12_runFrom 40 = .ok (.ifCond .le 22, 3) := by decide +kernel
theorem dX12_runFrom_43 : decode cX12_runFrom 43 = .ok (.aload_n 0, 1) := by decide +kernel
theorem dX12_runFrom_44 : decode cX12_runFrom 44 = .ok (.iload 4, 2) := by decide +kernel
theorem dX12_runFrom_46 : decode cX12_runFrom 46 = .ok (.iconst 5, 1) := by decide +kernel
theorem dX12_runFrom_47 : decode cX12_runFrom 47 = .ok (.invokevirtual 68, 3) := by decide +kernel
theorem dX12_runFrom_50 : decode cX12_runFrom 50 = .ok (.iload_n 3, 1) := by decide +kernel
theorem dX12_runFrom_51 : decode cX12_runFrom 51 = .ok (.iand, 1) := by decide +kernel
theorem dX12_runFrom_52 : decode cX12_runFrom 52 = .ok (.ifCond .eq 10, 3) := by decide +kernel
theorem dX12_runFrom_55 : decode cX12_runFrom 55 = .ok (.iconst 1, 1) := by decide +kernel
theorem dX12_runFrom_56 : decode cX12_runFrom 56 = .ok (.iload 4, 2) := by decide +kernel
theorem dX12_runFrom_58 : decode cX12_runFrom 58 = .ok (.ishl, 1) := by decide +kernel
theorem dX12_runFrom_59 : decode cX12_runFrom 59 = .ok (.goto 4, 3) := by decide +kernel
theorem dX12_runFrom_62 : decode cX12_runFrom 62 = .ok (.iconst 0, 1) := by decide +kernel
theorem dX12_runFrom_63 : decode cX12_runFrom 63 = .ok (.ior, 1) := by decide +kernel
theorem dX12_runFrom_64 : decode cX12_runFrom 64 = .ok (.istore_n 2, 1) := by decide +kernel
theorem dX12_runFrom_65 : decode cX12_runFrom 65 = .ok (.iinc 4 1, 3) := by decide +kernel
theorem dX12_runFrom_68 : decode cX12_runFrom 68 = .ok (.goto (-54), 3) := by decide +kernel
theorem dX12_runFrom_71 : decode cX12_runFrom 71 = .ok (.goto (-67), 3) := by decide +kernel
theorem dX12_runFrom_74 : decode cX12_runFrom 74 = .ok (.iload_n 2, 1) := by decide +kernel
theorem dX12_runFrom_75 : decode cX12_runFrom 75 = .ok (.ireturn, 1) := by decide +kernel
theorem dX12_accountsOf_0 : decode cX12_accountsOf 0 = .ok (.iconst 0, 1) := by decide +kernel
theorem dX12_accountsOf_1 : decode cX12_accountsOf 1 = .ok (.istore_n 2, 1) := by decide +kernel
theorem dX12_accountsOf_2 : decode cX12_accountsOf 2 = .ok (.iconst 0, 1) := by decide +kernel
theorem dX12_accountsOf_3 : decode cX12_accountsOf 3 = .ok (.istore_n 3, 1) := by decide +kernel
theorem dX12_accountsOf_4 : decode cX12_accountsOf 4 = .ok (.iload_n 3, 1) := by decide +kernel
theorem dX12_accountsOf_5 : decode cX12_accountsOf 5 = .ok (.aload_n 0, 1) := by decide +kernel
theorem dX12_accountsOf_6 : decode cX12_accountsOf 6 = .ok (.invokevirtual 74, 3) := by decide +kernel
theorem dX12_accountsOf_9 : decode cX12_accountsOf 9 = .ok (.if_icmp .ge 30, 3) := by decide +kernel
theorem dX12_accountsOf_12 : decode cX12_accountsOf 12 = .ok (.iload_n 2, 1) := by decide +kernel
theorem dX12_accountsOf_13 : decode cX12_accountsOf 13 = .ok (.iload_n 1, 1) := by decide +kernel
theorem dX12_accountsOf_14 : decode cX12_accountsOf 14 = .ok (.iload_n 3, 1) := by decide +kernel
theorem dX12_accountsOf_15 : decode cX12_accountsOf 15 = .ok (.invokestatic 332, 3) := by decide +kernel
theorem dX12_accountsOf_18 : decode cX12_accountsOf 18 = .ok (.ifCond .eq 12, 3) := by decide +kernel
theorem dX12_accountsOf_21 : decode cX12_accountsOf 21 = .ok (.aload_n 0, 1) := by decide +kernel
theorem dX12_accountsOf_22 : decode cX12_accountsOf 22 = .ok (.iload_n 3, 1) := by decide +kernel
theorem dX12_accountsOf_23 : decode cX12_accountsOf 23 = .ok (.iconst 1, 1) := by decide +kernel
theorem dX12_accountsOf_24 : decode cX12_accountsOf 24 = .ok (.invokevirtual 68, 3) := by decide +kernel
theorem dX12_accountsOf_27 : decode cX12_accountsOf 27 = .ok (.goto 4, 3) := by decide +kernel
theorem dX12_accountsOf_30 : decode cX12_accountsOf 30 = .ok (.iconst 0, 1) := by decide +kernel
theorem dX12_accountsOf_31 : decode cX12_accountsOf 31 = .ok (.iadd, 1) := by decide +kernel
theorem dX12_accountsOf_32 : decode cX12_accountsOf 32 = .ok (.istore_n 2, 1) := by decide +kernel
theorem dX12_accountsOf_33 : decode cX12_accountsOf 33 = .ok (.iinc 3 1, 3) := by decide +kernel
theorem dX12_accountsOf_36 : decode cX12_accountsOf 36 = .ok (.goto (-32), 3) := by decide +kernel
theorem dX12_accountsOf_39 : decode cX12_accountsOf 39 = .ok (.iload_n 2, 1) := by decide +kernel
theorem dX12_accountsOf_40 : decode cX12_accountsOf 40 = .ok (.ireturn, 1) := by decide +kernel
theorem dX12_run_0 : decode cX12_run 0 = .ok (.aload_n 0, 1) := by decide +kernel
theorem dX12_run_1 : decode cX12_run 1 = .ok (.iconst 0, 1) := by decide +kernel
theorem dX12_run_2 : decode cX12_run 2 = .ok (.putfield 3, 3) := by decide +kernel
theorem dX12_run_5 : decode cX12_run 5 = .ok (.aload_n 0, 1) := by decide +kernel
theorem dX12_run_6 : decode cX12_run 6 = .ok (.aload_n 0, 1) := by decide +kernel
theorem dX12_run_7 : decode cX12_run 7 = .ok (.iload_n 1, 1) := by decide +kernel
theorem dX12_run_8 : decode cX12_run 8 = .ok (.invokevirtual 335, 3) := by decide +kernel
theorem dX12_run_11 : decode cX12_run 11 = .ok (.iconst 1, 1) := by decide +kernel
theorem dX12_run_12 : decode cX12_run 12 = .ok (.invokevirtual 253, 3) := by decide +kernel
theorem dX12_run_15 : decode cX12_run 15 = .ok (.ifCond .ne 24, 3) := by decide +kernel
theorem dX12_run_18 : decode cX12_run 18 = .ok (.aload_n 0, 1) := by decide +kernel
theorem dX12_run_19 : decode cX12_run 19 = .ok (.aload_n 0, 1) := by decide +kernel
theorem dX12_run_20 : decode cX12_run 20 = .ok (.iload_n 1, 1) := by decide +kernel
theorem dX12_run_21 : decode cX12_run 21 = .ok (.invokevirtual 296, 3) := by decide +kernel
theorem dX12_run_24 : decode cX12_run 24 = .ok (.ifCond .ne 7, 3) := by decide +kernel
theorem dX12_run_27 : decode cX12_run 27 = .ok (.iconst 1, 1) := by decide +kernel
theorem dX12_run_28 : decode cX12_run 28 = .ok (.goto 4, 3) := by decide +kernel
theorem dX12_run_31 : decode cX12_run 31 = .ok (.iconst 0, 1) := by decide +kernel
theorem dX12_run_32 : decode cX12_run 32 = .ok (.iconst 2, 1) := by decide +kernel
theorem dX12_run_33 : decode cX12_run 33 = .ok (.invokevirtual 253, 3) := by decide +kernel
theorem dX12_run_36 : decode cX12_run 36 = .ok (.ifCond .eq 5, 3) := by decide +kernel
theorem dX12_run_39 : decode cX12_run 39 = .ok (.iconst 0, 1) := by decide +kernel
theorem dX12_run_40 : decode cX12_run 40 = .ok (.ireturn, 1) := by decide +kernel
theorem dX12_run_41 : decode cX12_run 41 = .ok (.aload_n 0, 1) := by decide +kernel
theorem dX12_run_42 : decode cX12_run 42 = .ok (.iconst 1, 1) := by decide +kernel
theorem dX12_run_43 : decode cX12_run 43 = .ok (.iload_n 1, 1) := by decide +kernel
theorem dX12_run_44 : decode cX12_run 44 = .ok (.ishl, 1) := by decide +kernel
theorem dX12_run_45 : decode cX12_run 45 = .ok (.invokevirtual 387, 3) := by decide +kernel
theorem dX12_run_48 : decode cX12_run 48 = .ok (.istore_n 3, 1) := by decide +kernel
theorem dX12_run_49 : decode cX12_run 49 = .ok (.iload_n 2, 1) := by decide +kernel
theorem dX12_run_50 : decode cX12_run 50 = .ok (.ifCond .eq 11, 3) := by decide +kernel
theorem dX12_run_53 : decode cX12_run 53 = .ok (.aload_n 0, 1) := by decide +kernel
theorem dX12_run_54 : decode cX12_run 54 = .ok (.iload_n 3, 1) := by decide +kernel
theorem dX12_run_55 : decode cX12_run 55 = .ok (.invokevirtual 390, 3) := by decide +kernel
theorem dX12_run_58 : decode cX12_run 58 = .ok (.goto 4, 3) := by decide +kernel
theorem dX12_run_61 : decode cX12_run 61 = .ok (.iload_n 3, 1) := by decide +kernel
theorem dX12_run_62 : decode cX12_run 62 = .ok (.ireturn, 1) := by decide +kernel
theorem dX12_spark_0 : decode cX12_spark 0 = .ok (.aload_n 0, 1) := by decide +kernel
theorem dX12_spark_1 : decode cX12_spark 1 = .ok (.iconst 0, 1) := by decide +kernel
theorem dX12_spark_2 : decode cX12_spark 2 = .ok (.putfield 3, 3) := by decide +kernel
theorem dX12_spark_5 : decode cX12_spark 5 = .ok (.aload_n 0, 1) := by decide +kernel
theorem dX12_spark_6 : decode cX12_spark 6 = .ok (.invokevirtual 393, 3) := by decide +kernel
theorem dX12_spark_9 : decode cX12_spark 9 = .ok (.istore_n 1, 1) := by decide +kernel
theorem dX12_spark_10 : decode cX12_spark 10 = .ok (.iconst (-1), 1) := by decide +kernel
theorem dX12_spark_11 : decode cX12_spark 11 = .ok (.istore_n 2, 1) := by decide +kernel
theorem dX12_spark_12 : decode cX12_spark 12 = .ok (.iload_n 1, 1) := by decide +kernel
theorem dX12_spark_13 : decode cX12_spark 13 = .ok (.istore_n 3, 1) := by decide +kernel
theorem dX12_spark_14 : decode cX12_spark 14 = .ok (.iload_n 3, 1) := by decide +kernel
theorem dX12_spark_15 : decode cX12_spark 15 = .ok (.ifCond .le 59, 3) := by decide +kernel
theorem dX12_spark_18 : decode cX12_spark 18 = .ok (.iload_n 3, 1) := by decide +kernel
theorem dX12_spark_19 : decode cX12_spark 19 = .ok (.iload_n 1, 1) := by decide +kernel
theorem dX12_spark_20 : decode cX12_spark 20 = .ok (.iconst (-1), 1) := by decide +kernel
theorem dX12_spark_21 : decode cX12_spark 21 = .ok (.ixor, 1) := by decide +kernel
theorem dX12_spark_22 : decode cX12_spark 22 = .ok (.iand, 1) := by decide +kernel
theorem dX12_spark_23 : decode cX12_spark 23 = .ok (.ifCond .ne 45, 3) := by decide +kernel
theorem dX12_spark_26 : decode cX12_spark 26 = .ok (.iload_n 2, 1) := by decide +kernel
theorem dX12_spark_27 : decode cX12_spark 27 = .ok (.ifCond .lt 17, 3) := by decide +kernel
theorem dX12_spark_30 : decode cX12_spark 30 = .ok (.iload_n 3, 1) := by decide +kernel
theorem dX12_spark_31 : decode cX12_spark 31 = .ok (.invokestatic 379, 3) := by decide +kernel
theorem dX12_spark_34 : decode cX12_spark 34 = .ok (.iload_n 2, 1) := by decide +kernel
theorem dX12_spark_35 : decode cX12_spark 35 = .ok (.invokestatic 379, 3) := by decide +kernel
theorem dX12_spark_38 : decode cX12_spark 38 = .ok (.if_icmp .le 6, 3) := by decide +kernel
theorem dX12_spark_41 : decode cX12_spark 41 = .ok (.goto 27, 3) := by decide +kernel
theorem dX12_spark_44 : decode cX12_spark 44 = .ok (.aload_n 0, 1) := by decide +kernel
theorem dX12_spark_45 : decode cX12_spark 45 = .ok (.aload_n 0, 1) := by decide +kernel
theorem dX12_spark_46 : decode cX12_spark 46 = .ok (.iload_n 3, 1) := by decide +kernel
theorem dX12_spark_47 : decode cX12_spark 47 = .ok (.invokevirtual 387, 3) := by decide +kernel
theorem dX12_spark_50 : decode cX12_spark 50 = .ok (.invokevirtual 390, 3) := by decide +kernel
theorem dX12_spark_53 : decode cX12_spark 53 = .ok (.aload_n 0, 1) := by decide +kernel
theorem dX12_spark_54 : decode cX12_spark 54 = .ok (.getfield 13, 3) := by decide +kernel
theorem dX12_spark_57 : decode cX12_spark 57 = .ok (.iconst 4, 1) := by decide +kernel
theorem dX12_spark_58 : decode cX12_spark 58 = .ok (.iaload, 1) := by decide +kernel
theorem dX12_spark_59 : decode cX12_spark 59 = .ok (.if_icmp .le 7, 3) := by decide +kernel
theorem dX12_spark_62 : decode cX12_spark 62 = .ok (.iload_n 3, 1) := by decide +kernel
theorem dX12_spark_63 : decode cX12_spark 63 = .ok (.goto 4, 3) := by decide +kernel
theorem dX12_spark_66 : decode cX12_spark 66 = .ok (.iload_n 2, 1) := by decide +kernel
theorem dX12_spark_67 : decode cX12_spark 67 = .ok (.istore_n 2, 1) := by decide +kernel
theorem dX12_spark_68 : decode cX12_spark 68 = .ok (.iinc 3 (-1), 3) := by decide +kernel
theorem dX12_spark_71 : decode cX12_spark 71 = .ok (.goto (-57), 3) := by decide +kernel
theorem dX12_spark_74 : decode cX12_spark 74 = .ok (.iload_n 2, 1) := by decide +kernel
theorem dX12_spark_75 : decode cX12_spark 75 = .ok (.ireturn, 1) := by decide +kernel
theorem dX12_reserve_0 : decode cX12_reserve 0 = .ok (.aload_n 0, 1) := by decide +kernel
theorem dX12_reserve_1 : decode cX12_reserve 1 = .ok (.iconst 0, 1) := by decide +kernel
theorem dX12_reserve_2 : decode cX12_reserve 2 = .ok (.putfield 3, 3) := by decide +kernel
theorem dX12_reserve_5 : decode cX12_reserve 5 = .ok (.iconst 0, 1) := by decide +kernel
theorem dX12_reserve_6 : decode cX12_reserve 6 = .ok (.istore_n 1, 1) := by decide +kernel
theorem dX12_reserve_7 : decode cX12_reserve 7 = .ok (.iconst 0, 1) := by decide +kernel
theorem dX12_reserve_8 : decode cX12_reserve 8 = .ok (.istore_n 2, 1) := by decide +kernel
theorem dX12_reserve_9 : decode cX12_reserve 9 = .ok (.iload_n 2, 1) := by decide +kernel
theorem dX12_reserve_10 : decode cX12_reserve 10 = .ok (.aload_n 0, 1) := by decide +kernel
theorem dX12_reserve_11 : decode cX12_reserve 11 = .ok (.invokevirtual 74, 3) := by decide +kernel
theorem dX12_reserve_14 : decode cX12_reserve 14 = .ok (.if_icmp .ge 33, 3) := by decide +kernel
theorem dX12_reserve_17 : decode cX12_reserve 17 = .ok (.aload_n 0, 1) := by decide +kernel
theorem dX12_reserve_18 : decode cX12_reserve 18 = .ok (.iload_n 2, 1) := by decide +kernel
theorem dX12_reserve_19 : decode cX12_reserve 19 = .ok (.invokevirtual 296, 3) := by decide +kernel
theorem dX12_reserve_22 : decode cX12_reserve 22 = .ok (.ifCond .eq 19, 3) := by decide +kernel
theorem dX12_reserve_25 : decode cX12_reserve 25 = .ok (.iload_n 1, 1) := by decide +kernel
theorem dX12_reserve_26 : decode cX12_reserve 26 = .ok (.aload_n 0, 1) := by decide +kernel
theorem dX12_reserve_27 : decode cX12_reserve 27 = .ok (.aload_n 0, 1) := by decide +kernel
theorem dX12_reserve_28 : decode cX12_reserve 28 = .ok (.iconst 1, 1) := by decide +kernel
theorem dX12_reserve_29 : decode cX12_reserve 29 = .ok (.iload_n 2, 1) := by decide +kernel
theorem dX12_reserve_30 : decode cX12_reserve 30 = .ok (.ishl, 1) := by decide +kernel
theorem dX12_reserve_31 : decode cX12_reserve 31 = .ok (.invokevirtual 387, 3) := by decide +kernel
theorem dX12_reserve_34 : decode cX12_reserve 34 = .ok (.invokevirtual 390, 3) := by decide +kernel
theorem dX12_reserve_37 : decode cX12_reserve 37 = .ok (.invokestatic 280, 3) := by decide +kernel
theorem dX12_reserve_40 : decode cX12_reserve 40 = .ok (.istore_n 1, 1) := by decide +kernel
theorem dX12_reserve_41 : decode cX12_reserve 41 = .ok (.iinc 2 1, 3) := by decide +kernel
theorem dX12_reserve_44 : decode cX12_reserve 44 = .ok (.goto (-35), 3) := by decide +kernel
theorem dX12_reserve_47 : decode cX12_reserve 47 = .ok (.iload_n 1, 1) := by decide +kernel
theorem dX12_reserve_48 : decode cX12_reserve 48 = .ok (.ireturn, 1) := by decide +kernel
theorem dX12_feelings_0 : decode cX12_feelings 0 = .ok (.aload_n 0, 1) := by decide +kernel
theorem dX12_feelings_1 : decode cX12_feelings 1 = .ok (.iconst 0, 1) := by decide +kernel
theorem dX12_feelings_2 : decode cX12_feelings 2 = .ok (.putfield 3, 3) := by decide +kernel
theorem dX12_feelings_5 : decode cX12_feelings 5 = .ok (.iconst 0, 1) := by decide +kernel
theorem dX12_feelings_6 : decode cX12_feelings 6 = .ok (.istore_n 1, 1) := by decide +kernel
theorem dX12_feelings_7 : decode cX12_feelings 7 = .ok (.iconst 0, 1) := by decide +kernel
theorem dX12_feelings_8 : decode cX12_feelings 8 = .ok (.istore_n 2, 1) := by decide +kernel
theorem dX12_feelings_9 : decode cX12_feelings 9 = .ok (.iload_n 2, 1) := by decide +kernel
theorem dX12_feelings_10 : decode cX12_feelings 10 = .ok (.aload_n 0, 1) := by decide +kernel
theorem dX12_feelings_11 : decode cX12_feelings 11 = .ok (.invokevirtual 74, 3) := by decide +kernel
theorem dX12_feelings_14 : decode cX12_feelings 14 = .ok (.if_icmp .ge 34, 3) := by decide +kernel
theorem dX12_feelings_17 : decode cX12_feelings 17 = .ok (.iload_n 1, 1) := by decide +kernel
theorem dX12_feelings_18 : decode cX12_feelings 18 = .ok (.aload_n 0, 1) := by decide +kernel
theorem dX12_feelings_19 : decode cX12_feelings 19 = .ok (.iload_n 2, 1) := by decide +kernel
theorem dX12_feelings_20 : decode cX12_feelings 20 = .ok (.invokevirtual 296, 3) := by decide +kernel
theorem dX12_feelings_23 : decode cX12_feelings 23 = .ok (.ifCond .eq 16, 3) := by decide +kernel
theorem dX12_feelings_26 : decode cX12_feelings 26 = .ok (.aload_n 0, 1) := by decide +kernel
theorem dX12_feelings_27 : decode cX12_feelings 27 = .ok (.iload_n 2, 1) := by decide +kernel
theorem dX12_feelings_28 : decode cX12_feelings 28 = .ok (.iconst 1, 1) := by decide +kernel
theorem dX12_feelings_29 : decode cX12_feelings 29 = .ok (.invokevirtual 68, 3) := by decide +kernel
theorem dX12_feelings_32 : decode cX12_feelings 32 = .ok (.ifCond .le 7, 3) := by decide +kernel
theorem dX12_feelings_35 : decode cX12_feelings 35 = .ok (.iconst 1, 1) := by decide +kernel
theorem dX12_feelings_36 : decode cX12_feelings 36 = .ok (.goto 4, 3) := by decide +kernel
theorem dX12_feelings_39 : decode cX12_feelings 39 = .ok (.iconst 0, 1) := by decide +kernel
theorem dX12_feelings_40 : decode cX12_feelings 40 = .ok (.iadd, 1) := by decide +kernel
theorem dX12_feelings_41 : decode cX12_feelings 41 = .ok (.istore_n 1, 1) := by decide +kernel
theorem dX12_feelings_42 : decode cX12_feelings 42 = .ok (.iinc 2 1, 3) := by decide +kernel
theorem dX12_feelings_45 : decode cX12_feelings 45 = .ok (.goto (-36), 3) := by decide +kernel
theorem dX12_feelings_48 : decode cX12_feelings 48 = .ok (.iconst 0, 1) := by decide +kernel
theorem dX12_feelings_49 : decode cX12_feelings 49 = .ok (.istore_n 2, 1) := by decide +kernel
theorem dX12_feelings_50 : decode cX12_feelings 50 = .ok (.iconst 1, 1) := by decide +kernel
theorem dX12_feelings_51 : decode cX12_feelings 51 = .ok (.iload_n 2, 1) := by decide +kernel
theorem dX12_feelings_52 : decode cX12_feelings 52 = .ok (.ishl, 1) := by decide +kernel
theorem dX12_feelings_53 : decode cX12_feelings 53 = .ok (.iload_n 1, 1) := by decide +kernel
theorem dX12_feelings_54 : decode cX12_feelings 54 = .ok (.if_icmp .ge 9, 3) := by decide +kernel
theorem dX12_feelings_57 : decode cX12_feelings 57 = .ok (.iinc 2 1, 3) := by decide +kernel
theorem dX12_feelings_60 : decode cX12_feelings 60 = .ok (.goto (-10), 3) := by decide +kernel
theorem dX12_feelings_63 : decode cX12_feelings 63 = .ok (.iload_n 2, 1) := by decide +kernel
theorem dX12_feelings_64 : decode cX12_feelings 64 = .ok (.ireturn, 1) := by decide +kernel
theorem dX12_painsOf_0 : decode cX12_painsOf 0 = .ok (.iconst 0, 1) := by decide +kernel
theorem dX12_painsOf_1 : decode cX12_painsOf 1 = .ok (.istore_n 3, 1) := by decide +kernel
theorem dX12_painsOf_2 : decode cX12_painsOf 2 = .ok (.iconst 0, 1) := by decide +kernel
theorem dX12_painsOf_3 : decode cX12_painsOf 3 = .ok (.istore 4, 2) := by decide +kernel
theorem dX12_painsOf_5 : decode cX12_painsOf 5 = .ok (.iload 4, 2) := by decide +kernel
theorem dX12_painsOf_7 : decode cX12_painsOf 7 = .ok (.aload_n 0, 1) := by decide +kernel
theorem dX12_painsOf_8 : decode cX12_painsOf 8 = .ok (.invokevirtual 74, 3) := by decide +kernel
theorem dX12_painsOf_11 : decode cX12_painsOf 11 = .ok (.if_icmp .ge 35, 3) := by decide +kernel
theorem dX12_painsOf_14 : decode cX12_painsOf 14 = .ok (.iload_n 3, 1) := by decide +kernel
theorem dX12_painsOf_15 : decode cX12_painsOf 15 = .ok (.iload_n 1, 1) := by decide +kernel
theorem dX12_painsOf_16 : decode cX12_painsOf 16 = .ok (.iload 4, 2) := by decide +kernel
theorem dX12_painsOf_18 : decode cX12_painsOf 18 = .ok (.invokestatic 332, 3) := by decide +kernel
theorem dX12_painsOf_21 : decode cX12_painsOf 21 = .ok (.ifCond .eq 16, 3) := by decide +kernel
theorem dX12_painsOf_24 : decode cX12_painsOf 24 = .ok (.aload_n 0, 1) := by decide +kernel
theorem dX12_painsOf_25 : decode cX12_painsOf 25 = .ok (.iload 4, 2) := by decide +kernel
theorem dX12_painsOf_27 : decode cX12_painsOf 27 = .ok (.bipush 6, 2) := by decide +kernel
theorem dX12_painsOf_29 : decode cX12_painsOf 29 = .ok (.iload_n 2, 1) := by decide +kernel
theorem dX12_painsOf_30 : decode cX12_painsOf 30 = .ok (.iadd, 1) := by decide +kernel
theorem dX12_painsOf_31 : decode cX12_painsOf 31 = .ok (.invokevirtual 68, 3) := by decide +kernel
theorem dX12_painsOf_34 : decode cX12_painsOf 34 = .ok (.goto 4, 3) := by decide +kernel
theorem dX12_painsOf_37 : decode cX12_painsOf 37 = .ok (.iconst 0, 1) := by decide +kernel
theorem dX12_painsOf_38 : decode cX12_painsOf 38 = .ok (.iadd, 1) := by decide +kernel
theorem dX12_painsOf_39 : decode cX12_painsOf 39 = .ok (.istore_n 3, 1) := by decide +kernel
theorem dX12_painsOf_40 : decode cX12_painsOf 40 = .ok (.iinc 4 1, 3) := by decide +kernel
theorem dX12_painsOf_43 : decode cX12_painsOf 43 = .ok (.goto (-38), 3) := by decide +kernel
theorem dX12_painsOf_46 : decode cX12_painsOf 46 = .ok (.iload_n 3, 1) := by decide +kernel
theorem dX12_painsOf_47 : decode cX12_painsOf 47 = .ok (.ireturn, 1) := by decide +kernel
theorem dX12_saint_0 : decode cX12_saint 0 = .ok (.aload_n 0, 1) := by decide +kernel
theorem dX12_saint_1 : decode cX12_saint 1 = .ok (.iconst 0, 1) := by decide +kernel
theorem dX12_saint_2 : decode cX12_saint 2 = .ok (.putfield 3, 3) := by decide +kernel
theorem dX12_saint_5 : decode cX12_saint 5 = .ok (.aload_n 0, 1) := by decide +kernel
theorem dX12_saint_6 : decode cX12_saint 6 = .ok (.iload_n 2, 1) := by decide +kernel
theorem dX12_saint_7 : decode cX12_saint 7 = .ok (.iconst 0, 1) := by decide +kernel
theorem dX12_saint_8 : decode cX12_saint 8 = .ok (.bipush 6, 2) := by decide +kernel
theorem dX12_saint_10 : decode cX12_saint 10 = .ok (.invokestatic 78, 3) := by decide +kernel
theorem dX12_saint_13 : decode cX12_saint 13 = .ok (.ifCond .ne 7, 3) := by decide +kernel
theorem dX12_saint_16 : decode cX12_saint 16 = .ok (.iconst 1, 1) := by decide +kernel
theorem dX12_saint_17 : decode cX12_saint 17 = .ok (.goto 4, 3) := by decide +kernel
theorem dX12_saint_20 : decode cX12_saint 20 = .ok (.iconst 0, 1) := by decide +kernel
theorem dX12_saint_21 : decode cX12_saint 21 = .ok (.iconst 1, 1) := by decide +kernel
theorem dX12_saint_22 : decode cX12_saint 22 = .ok (.invokevirtual 253, 3) := by decide +kernel
theorem dX12_saint_25 : decode cX12_saint 25 = .ok (.ifCond .eq 5, 3) := by decide +kernel
theorem dX12_saint_28 : decode cX12_saint 28 = .ok (.iconst 0, 1) := by decide +kernel
theorem dX12_saint_29 : decode cX12_saint 29 = .ok (.ireturn, 1) := by decide +kernel
theorem dX12_saint_30 : decode cX12_saint 30 = .ok (.iconst 0, 1) := by decide +kernel
theorem dX12_saint_31 : decode cX12_saint 31 = .ok (.istore 4, 2) := by decide +kernel
theorem dX12_saint_33 : decode cX12_saint 33 = .ok (.iconst 1, 1) := by decide +kernel
theorem dX12_saint_34 : decode cX12_saint 34 = .ok (.aload_n 0, 1) := by decide +kernel
theorem dX12_saint_35 : decode cX12_saint 35 = .ok (.invokevirtual 74, 3) := by decide +kernel
theorem dX12_saint_38 : decode cX12_saint 38 = .ok (.ishl, 1) := by decide +kernel
theorem dX12_saint_39 : decode cX12_saint 39 = .ok (.iconst 1, 1) := by decide +kernel
theorem dX12_saint_40 : decode cX12_saint 40 = .ok (.isub, 1) := by decide +kernel
theorem dX12_saint_41 : decode cX12_saint 41 = .ok (.istore 5, 2) := by decide +kernel
theorem dX12_saint_43 : decode cX12_saint 43 = .ok (.iload 5, 2) := by decide +kernel
theorem dX12_saint_45 : decode cX12_saint 45 = .ok (.istore 6, 2) := by decide +kernel
theorem dX12_saint_47 : decode cX12_saint 47 = .ok (.iconst 0, 1) := by decide +kernel
theorem dX12_saint_48 : decode cX12_saint 48 = .ok (.istore 7, 2) := by decide +kernel
theorem dX12_saint_50 : decode cX12_saint 50 = .ok (.iload 7, 2) := by decide +kernel
theorem dX12_saint_52 : decode cX12_saint 52 = .ok (.iload 5, 2) := by decide +kernel
theorem dX12_saint_54 : decode cX12_saint 54 = .ok (.if_icmp .gt 33, 3) := by decide +kernel
theorem dX12_saint_57 : decode cX12_saint 57 = .ok (.aload_n 0, 1) := by decide +kernel
theorem dX12_saint_58 : decode cX12_saint 58 = .ok (.iload 7, 2) := by decide +kernel
theorem dX12_saint_60 : decode cX12_saint 60 = .ok (.iload_n 2, 1) := by decide +kernel
theorem dX12_saint_61 : decode cX12_saint 61 = .ok (.invokevirtual 396, 3) := by decide +kernel
theorem dX12_saint_64 : decode cX12_saint 64 = .ok (.iload_n 1, 1) := by decide +kernel
theorem dX12_saint_65 : decode cX12_saint 65 = .ok (.if_icmp .eq 6, 3) := by decide +kernel
theorem dX12_saint_68 : decode cX12_saint 68 = .ok (.goto 13, 3) := by decide +kernel
theorem dX12_saint_71 : decode cX12_saint 71 = .ok (.iinc 4 1, 3) := by decide +kernel
theorem dX12_saint_74 : decode cX12_saint 74 = .ok (.iload 6, 2) := by decide +kernel
theorem dX12_saint_76 : decode cX12_saint 76 = .ok (.iload 7, 2) := by decide +kernel
theorem dX12_saint_78 : decode cX12_saint 78 = .ok (.iand, 1) := by decide +kernel
theorem dX12_saint_79 : decode cX12_saint 79 = .ok (.istore 6, 2) := by decide +kernel
theorem dX12_saint_81 : decode cX12_saint 81 = .ok (.iinc 7 1, 3) := by decide +kernel
theorem dX12_saint_84 : decode cX12_saint 84 = .ok (.goto (-34), 3) := by decide +kernel
theorem dX12_saint_87 : decode cX12_saint 87 = .ok (.iload_n 3, 1) := by decide +kernel
theorem dX12_saint_88 : decode cX12_saint 88 = .ok (.ifCond .ne 8, 3) := by decide +kernel
theorem dX12_saint_91 : decode cX12_saint 91 = .ok (.iload 4, 2) := by decide +kernel
theorem dX12_saint_93 : decode cX12_saint 93 = .ok (.goto 14, 3) := by decide +kernel
theorem dX12_saint_96 : decode cX12_saint 96 = .ok (.iload 4, 2) := by decide +kernel
theorem dX12_saint_98 : decode cX12_saint 98 = .ok (.ifCond .ne 7, 3) := by decide +kernel
theorem dX12_saint_101 : decode cX12_saint 101 = .ok (.iconst 0, 1) := by decide +kernel
theorem dX12_saint_102 : decode cX12_saint 102 = .ok (.goto 5, 3) := by decide +kernel
theorem dX12_saint_105 : decode cX12_saint 105 = .ok (.iload 6, 2) := by decide +kernel
theorem dX12_saint_107 : decode cX12_saint 107 = .ok (.ireturn, 1) := by decide +kernel
theorem dX12_areDead_0 : decode cX12_areDead 0 = .ok (.aload_n 0, 1) := by decide +kernel
theorem dX12_areDead_1 : decode cX12_areDead 1 = .ok (.iload_n 1, 1) := by decide +kernel
theorem dX12_areDead_2 : decode cX12_areDead 2 = .ok (.invokevirtual 296, 3) := by decide +kernel
theorem dX12_areDead_5 : decode cX12_areDead 5 = .ok (.ifCond .eq 11, 3) := by decide +kernel
theorem dX12_areDead_8 : decode cX12_areDead 8 = .ok (.aload_n 0, 1) := by decide +kernel
theorem dX12_areDead_9 : decode cX12_areDead 9 = .ok (.iload_n 2, 1) := by decide +kernel
theorem dX12_areDead_10 : decode cX12_areDead 10 = .ok (.invokevirtual 296, 3) := by decide +kernel
theorem dX12_areDead_13 : decode cX12_areDead 13 = .ok (.ifCond .ne 7, 3) := by decide +kernel
theorem dX12_areDead_16 : decode cX12_areDead 16 = .ok (.iconst 1, 1) := by decide +kernel
theorem dX12_areDead_17 : decode cX12_areDead 17 = .ok (.goto 4, 3) := by decide +kernel
theorem dX12_areDead_20 : decode cX12_areDead 20 = .ok (.iconst 0, 1) := by decide +kernel
theorem dX12_areDead_21 : decode cX12_areDead 21 = .ok (.ireturn, 1) := by decide +kernel
theorem dX12_painOfTwo_0 : decode cX12_painOfTwo 0 = .ok (.aload_n 0, 1) := by decide +kernel
theorem dX12_painOfTwo_1 : decode cX12_painOfTwo 1 = .ok (.iload_n 1, 1) := by decide +kernel
theorem dX12_painOfTwo_2 : decode cX12_painOfTwo 2 = .ok (.iload_n 3, 1) := by decide +kernel
theorem dX12_painOfTwo_3 : decode cX12_painOfTwo 3 = .ok (.invokevirtual 283, 3) := by decide +kernel
theorem dX12_painOfTwo_6 : decode cX12_painOfTwo 6 = .ok (.aload_n 0, 1) := by decide +kernel
theorem dX12_painOfTwo_7 : decode cX12_painOfTwo 7 = .ok (.iload_n 2, 1) := by decide +kernel
theorem dX12_painOfTwo_8 : decode cX12_painOfTwo 8 = .ok (.iload_n 3, 1) := by decide +kernel
theorem dX12_painOfTwo_9 : decode cX12_painOfTwo 9 = .ok (.invokevirtual 283, 3) := by decide +kernel
theorem dX12_painOfTwo_12 : decode cX12_painOfTwo 12 = .ok (.iadd, 1) := by decide +kernel
theorem dX12_painOfTwo_13 : decode cX12_painOfTwo 13 = .ok (.ireturn, 1) := by decide +kernel
theorem dX12_share_0 : decode cX12_share 0 = .ok (.aload_n 0, 1) := by decide +kernel
theorem dX12_share_1 : decode cX12_share 1 = .ok (.iconst 0, 1) := by decide +kernel
theorem dX12_share_2 : decode cX12_share 2 = .ok (.putfield 3, 3) := by decide +kernel
theorem dX12_share_5 : decode cX12_share 5 = .ok (.aload_n 0, 1) := by decide +kernel
theorem dX12_share_6 : decode cX12_share 6 = .ok (.aload_n 0, 1) := by decide +kernel
theorem dX12_share_7 : decode cX12_share 7 = .ok (.iload_n 1, 1) := by decide +kernel
theorem dX12_share_8 : decode cX12_share 8 = .ok (.invokevirtual 335, 3) := by decide +kernel
theorem dX12_share_11 : decode cX12_share 11 = .ok (.ifCond .ne 11, 3) := by decide +kernel
theorem dX12_share_14 : decode cX12_share 14 = .ok (.aload_n 0, 1) := by decide +kernel
theorem dX12_share_15 : decode cX12_share 15 = .ok (.iload_n 2, 1) := by decide +kernel
theorem dX12_share_16 : decode cX12_share 16 = .ok (.invokevirtual 335, 3) := by decide +kernel
theorem dX12_share_19 : decode cX12_share 19 = .ok (.ifCond .eq 7, 3) := by decide +kernel
theorem dX12_share_22 : decode cX12_share 22 = .ok (.iconst 1, 1) := by decide +kernel
theorem dX12_share_23 : decode cX12_share 23 = .ok (.goto 4, 3) := by decide +kernel
theorem dX12_share_26 : decode cX12_share 26 = .ok (.iconst 0, 1) := by decide +kernel
theorem dX12_share_27 : decode cX12_share 27 = .ok (.iconst 1, 1) := by decide +kernel
theorem dX12_share_28 : decode cX12_share 28 = .ok (.invokevirtual 253, 3) := by decide +kernel
theorem dX12_share_31 : decode cX12_share 31 = .ok (.ifCond .ne 35, 3) := by decide +kernel
theorem dX12_share_34 : decode cX12_share 34 = .ok (.aload_n 0, 1) := by decide +kernel
theorem dX12_share_35 : decode cX12_share 35 = .ok (.iload_n 1, 1) := by decide +kernel
theorem dX12_share_36 : decode cX12_share 36 = .ok (.iload_n 2, 1) := by decide +kernel
theorem dX12_share_37 : decode cX12_share 37 = .ok (.if_icmp .ne 7, 3) := by decide +kernel
theorem dX12_share_40 : decode cX12_share 40 = .ok (.iconst 1, 1) := by decide +kernel
theorem dX12_share_41 : decode cX12_share 41 = .ok (.goto 4, 3) := by decide +kernel
theorem dX12_share_44 : decode cX12_share 44 = .ok (.iconst 0, 1) := by decide +kernel
theorem dX12_share_45 : decode cX12_share 45 = .ok (.iconst 2, 1) := by decide +kernel
theorem dX12_share_46 : decode cX12_share 46 = .ok (.invokevirtual 253, 3) := by decide +kernel
theorem dX12_share_49 : decode cX12_share 49 = .ok (.ifCond .ne 17, 3) := by decide +kernel
theorem dX12_share_52 : decode cX12_share 52 = .ok (.aload_n 0, 1) := by decide +kernel
theorem dX12_share_53 : decode cX12_share 53 = .ok (.aload_n 0, 1) := by decide +kernel
theorem dX12_share_54 : decode cX12_share 54 = .ok (.iload_n 1, 1) := by decide +kernel
theorem dX12_share_55 : decode cX12_share 55 = .ok (.iload_n 2, 1) := by decide +kernel
theorem dX12_share_56 : decode cX12_share 56 = .ok (.invokevirtual 399, 3) := by decide +kernel
theorem dX12_share_59 : decode cX12_share 59 = .ok (.iconst 3, 1) := by decide +kernel
theorem dX12_share_60 : decode cX12_share 60 = .ok (.invokevirtual 253, 3) := by decide +kernel
theorem dX12_share_63 : decode cX12_share 63 = .ok (.ifCond .eq 5, 3) := by decide +kernel
theorem dX12_share_66 : decode cX12_share 66 = .ok (.iconst 0, 1) := by decide +kernel
theorem dX12_share_67 : decode cX12_share 67 = .ok (.ireturn, 1) := by decide +kernel
theorem dX12_share_68 : decode cX12_share 68 = .ok (.aload_n 0, 1) := by decide +kernel
theorem dX12_share_69 : decode cX12_share 69 = .ok (.iload_n 1, 1) := by decide +kernel
theorem dX12_share_70 : decode cX12_share 70 = .ok (.iload_n 2, 1) := by decide +kernel
theorem dX12_share_71 : decode cX12_share 71 = .ok (.aload_n 0, 1) := by decide +kernel
theorem dX12_share_72 : decode cX12_share 72 = .ok (.getfield 13, 3) := by decide +kernel
theorem dX12_share_75 : decode cX12_share 75 = .ok (.iconst 3, 1) := by decide +kernel
theorem dX12_share_76 : decode cX12_share 76 = .ok (.iaload, 1) := by decide +kernel
theorem dX12_share_77 : decode cX12_share 77 = .ok (.invokevirtual 402, 3) := by decide +kernel
theorem dX12_share_80 : decode cX12_share 80 = .ok (.aload_n 0, 1) := by decide +kernel
theorem dX12_share_81 : decode cX12_share 81 = .ok (.iload_n 1, 1) := by decide +kernel
theorem dX12_share_82 : decode cX12_share 82 = .ok (.iconst 1, 1) := by decide +kernel
theorem dX12_share_83 : decode cX12_share 83 = .ok (.invokevirtual 68, 3) := by decide +kernel
theorem dX12_share_86 : decode cX12_share 86 = .ok (.iadd, 1) := by decide +kernel
theorem dX12_share_87 : decode cX12_share 87 = .ok (.aload_n 0, 1) := by decide +kernel
theorem dX12_share_88 : decode cX12_share 88 = .ok (.iload_n 2, 1) := by decide +kernel
theorem dX12_share_89 : decode cX12_share 89 = .ok (.iconst 1, 1) := by decide +kernel
theorem dX12_share_90 : decode cX12_share 90 = .ok (.invokevirtual 68, 3) := by decide +kernel
theorem dX12_share_93 : decode cX12_share 93 = .ok (.iadd, 1) := by decide +kernel
theorem dX12_share_94 : decode cX12_share 94 = .ok (.aload_n 0, 1) := by decide +kernel
theorem dX12_share_95 : decode cX12_share 95 = .ok (.iload_n 1, 1) := by decide +kernel
theorem dX12_share_96 : decode cX12_share 96 = .ok (.iconst 0, 1) := by decide +kernel
theorem dX12_share_97 : decode cX12_share 97 = .ok (.invokevirtual 68, 3) := by decide +kernel
theorem dX12_share_100 : decode cX12_share 100 = .ok (.aload_n 0, 1) := by decide +kernel
theorem dX12_share_101 : decode cX12_share 101 = .ok (.iload_n 2, 1) := by decide +kernel
theorem dX12_share_102 : decode cX12_share 102 = .ok (.iconst 0, 1) := by decide +kernel
theorem dX12_share_103 : decode cX12_share 103 = .ok (.invokevirtual 68, 3) := by decide +kernel
theorem dX12_share_106 : decode cX12_share 106 = .ok (.iadd, 1) := by decide +kernel
theorem dX12_share_107 : decode cX12_share 107 = .ok (.if_icmp .gt 7, 3) := by decide +kernel
theorem dX12_share_110 : decode cX12_share 110 = .ok (.iconst 1, 1) := by decide +kernel
theorem dX12_share_111 : decode cX12_share 111 = .ok (.goto 4, 3) := by decide +kernel
theorem dX12_share_114 : decode cX12_share 114 = .ok (.iconst 0, 1) := by decide +kernel
theorem dX12_share_115 : decode cX12_share 115 = .ok (.ireturn, 1) := by decide +kernel
theorem dX12_shares_0 : decode cX12_shares 0 = .ok (.aload_n 0, 1) := by decide +kernel
theorem dX12_shares_1 : decode cX12_shares 1 = .ok (.iconst 0, 1) := by decide +kernel
theorem dX12_shares_2 : decode cX12_shares 2 = .ok (.putfield 3, 3) := by decide +kernel
theorem dX12_shares_5 : decode cX12_shares 5 = .ok (.aload_n 0, 1) := by decide +kernel
theorem dX12_shares_6 : decode cX12_shares 6 = .ok (.aload_n 0, 1) := by decide +kernel
theorem dX12_shares_7 : decode cX12_shares 7 = .ok (.iload_n 1, 1) := by decide +kernel
theorem dX12_shares_8 : decode cX12_shares 8 = .ok (.invokevirtual 335, 3) := by decide +kernel
theorem dX12_shares_11 : decode cX12_shares 11 = .ok (.ifCond .ne 11, 3) := by decide +kernel
theorem dX12_shares_14 : decode cX12_shares 14 = .ok (.aload_n 0, 1) := by decide +kernel
theorem dX12_shares_15 : decode cX12_shares 15 = .ok (.iload_n 2, 1) := by decide +kernel
theorem dX12_shares_16 : decode cX12_shares 16 = .ok (.invokevirtual 335, 3) := by decide +kernel
theorem dX12_shares_19 : decode cX12_shares 19 = .ok (.ifCond .eq 7, 3) := by decide +kernel
theorem dX12_shares_22 : decode cX12_shares 22 = .ok (.iconst 1, 1) := by decide +kernel
theorem dX12_shares_23 : decode cX12_shares 23 = .ok (.goto 4, 3) := by decide +kernel
theorem dX12_shares_26 : decode cX12_shares 26 = .ok (.iconst 0, 1) := by decide +kernel
theorem dX12_shares_27 : decode cX12_shares 27 = .ok (.iconst 1, 1) := by decide +kernel
theorem dX12_shares_28 : decode cX12_shares 28 = .ok (.invokevirtual 253, 3) := by decide +kernel
theorem dX12_shares_31 : decode cX12_shares 31 = .ok (.ifCond .ne 35, 3) := by decide +kernel
theorem dX12_shares_34 : decode cX12_shares 34 = .ok (.aload_n 0, 1) := by decide +kernel
theorem dX12_shares_35 : decode cX12_shares 35 = .ok (.iload_n 1, 1) := by decide +kernel
theorem dX12_shares_36 : decode cX12_shares 36 = .ok (.iload_n 2, 1) := by decide +kernel
theorem dX12_shares_37 : decode cX12_shares 37 = .ok (.if_icmp .ne 7, 3) := by decide +kernel
theorem dX12_shares_40 : decode cX12_shares 40 = .ok (.iconst 1, 1) := by decide +kernel
theorem dX12_shares_41 : decode cX12_shares 41 = .ok (.goto 4, 3) := by decide +kernel
theorem dX12_shares_44 : decode cX12_shares 44 = .ok (.iconst 0, 1) := by decide +kernel
theorem dX12_shares_45 : decode cX12_shares 45 = .ok (.iconst 2, 1) := by decide +kernel
theorem dX12_shares_46 : decode cX12_shares 46 = .ok (.invokevirtual 253, 3) := by decide +kernel
theorem dX12_shares_49 : decode cX12_shares 49 = .ok (.ifCond .ne 17, 3) := by decide +kernel
theorem dX12_shares_52 : decode cX12_shares 52 = .ok (.aload_n 0, 1) := by decide +kernel
theorem dX12_shares_53 : decode cX12_shares 53 = .ok (.aload_n 0, 1) := by decide +kernel
theorem dX12_shares_54 : decode cX12_shares 54 = .ok (.iload_n 1, 1) := by decide +kernel
theorem dX12_shares_55 : decode cX12_shares 55 = .ok (.iload_n 2, 1) := by decide +kernel
theorem dX12_shares_56 : decode cX12_shares 56 = .ok (.invokevirtual 399, 3) := by decide +kernel
theorem dX12_shares_59 : decode cX12_shares 59 = .ok (.iconst 3, 1) := by decide +kernel
theorem dX12_shares_60 : decode cX12_shares 60 = .ok (.invokevirtual 253, 3) := by decide +kernel
theorem dX12_shares_63 : decode cX12_shares 63 = .ok (.ifCond .eq 5, 3) := by decide +kernel
theorem dX12_shares_66 : decode cX12_shares 66 = .ok (.iconst 0, 1) := by decide +kernel
theorem dX12_shares_67 : decode cX12_shares 67 = .ok (.ireturn, 1) := by decide +kernel
theorem dX12_shares_68 : decode cX12_shares 68 = .ok (.aload_n 0, 1) := by decide +kernel
theorem dX12_shares_69 : decode cX12_shares 69 = .ok (.iload_n 1, 1) := by decide +kernel
theorem dX12_shares_70 : decode cX12_shares 70 = .ok (.iconst 1, 1) := by decide +kernel
theorem dX12_shares_71 : decode cX12_shares 71 = .ok (.invokevirtual 68, 3) := by decide +kernel
theorem dX12_shares_74 : decode cX12_shares 74 = .ok (.aload_n 0, 1) := by decide +kernel
theorem dX12_shares_75 : decode cX12_shares 75 = .ok (.iload_n 2, 1) := by decide +kernel
theorem dX12_shares_76 : decode cX12_shares 76 = .ok (.iconst 1, 1) := by decide +kernel
theorem dX12_shares_77 : decode cX12_shares 77 = .ok (.invokevirtual 68, 3) := by decide +kernel
theorem dX12_shares_80 : decode cX12_shares 80 = .ok (.iadd, 1) := by decide +kernel
theorem dX12_shares_81 : decode cX12_shares 81 = .ok (.istore_n 3, 1) := by decide +kernel
theorem dX12_shares_82 : decode cX12_shares 82 = .ok (.iconst 0, 1) := by decide +kernel
theorem dX12_shares_83 : decode cX12_shares 83 = .ok (.istore 4, 2) := by decide +kernel
theorem dX12_shares_85 : decode cX12_shares 85 = .ok (.iload 4, 2) := by decide +kernel
theorem dX12_shares_87 : decode cX12_shares 87 = .ok (.bipush 40, 2) := by decide +kernel
theorem dX12_shares_89 : decode cX12_shares 89 = .ok (.if_icmp .ge 49, 3) := by decide +kernel
theorem dX12_shares_92 : decode cX12_shares 92 = .ok (.iload_n 3, 1) := by decide +kernel
theorem dX12_shares_93 : decode cX12_shares 93 = .ok (.ifCond .le 45, 3) := by decide +kernel
theorem dX12_shares_96 : decode cX12_shares 96 = .ok (.iload_n 3, 1) := by decide +kernel
theorem dX12_shares_97 : decode cX12_shares 97 = .ok (.iconst 0, 1) := by decide +kernel
theorem dX12_shares_98 : decode cX12_shares 98 = .ok (.aload_n 0, 1) := by decide +kernel
theorem dX12_shares_99 : decode cX12_shares 99 = .ok (.iload_n 1, 1) := by decide +kernel
theorem dX12_shares_100 : decode cX12_shares 100 = .ok (.iconst 0, 1) := by decide +kernel
theorem dX12_shares_101 : decode cX12_shares 101 = .ok (.invokevirtual 68, 3) := by decide +kernel
theorem dX12_shares_104 : decode cX12_shares 104 = .ok (.aload_n 0, 1) := by decide +kernel
theorem dX12_shares_105 : decode cX12_shares 105 = .ok (.iload_n 2, 1) := by decide +kernel
theorem dX12_shares_106 : decode cX12_shares 106 = .ok (.iconst 0, 1) := by decide +kernel
theorem dX12_shares_107 : decode cX12_shares 107 = .ok (.invokevirtual 68, 3) := by decide +kernel
theorem dX12_shares_110 : decode cX12_shares 110 = .ok (.iadd, 1) := by decide +kernel
theorem dX12_shares_111 : decode cX12_shares 111 = .ok (.aload_n 0, 1) := by decide +kernel
theorem dX12_shares_112 : decode cX12_shares 112 = .ok (.iload_n 1, 1) := by decide +kernel
theorem dX12_shares_113 : decode cX12_shares 113 = .ok (.iload_n 2, 1) := by decide +kernel
theorem dX12_shares_114 : decode cX12_shares 114 = .ok (.aload_n 0, 1) := by decide +kernel
theorem dX12_shares_115 : decode cX12_shares 115 = .ok (.getfield 13, 3) := by decide +kernel
theorem dX12_shares_118 : decode cX12_shares 118 = .ok (.iconst 3, 1) := by decide +kernel
theorem dX12_shares_119 : decode cX12_shares 119 = .ok (.iaload, 1) := by decide +kernel
theorem dX12_shares_120 : decode cX12_shares 120 = .ok (.iload 4, 2) := by decide +kernel
theorem dX12_shares_122 : decode cX12_shares 122 = .ok (.iadd, 1) := by decide +kernel
theorem dX12_shares_123 : decode cX12_shares 123 = .ok (.invokevirtual 402, 3) := by decide +kernel
theorem dX12_shares_126 : decode cX12_shares 126 = .ok (.isub, 1) := by decide +kernel
theorem dX12_shares_127 : decode cX12_shares 127 = .ok (.invokestatic 280, 3) := by decide +kernel
theorem dX12_shares_130 : decode cX12_shares 130 = .ok (.isub, 1) := by decide +kernel
theorem dX12_shares_131 : decode cX12_shares 131 = .ok (.istore_n 3, 1) := by decide +kernel
theorem dX12_shares_132 : decode cX12_shares 132 = .ok (.iinc 4 1, 3) := by decide +kernel
theorem dX12_shares_135 : decode cX12_shares 135 = .ok (.goto (-50), 3) := by decide +kernel
theorem dX12_shares_138 : decode cX12_shares 138 = .ok (.iload_n 3, 1) := by decide +kernel
theorem dX12_shares_139 : decode cX12_shares 139 = .ok (.ifCond .le 7, 3) := by decide +kernel
theorem dX12_shares_142 : decode cX12_shares 142 = .ok (.iconst (-1), 1) := by decide +kernel
theorem dX12_shares_143 : decode cX12_shares 143 = .ok (.goto 5, 3) := by decide +kernel
theorem dX12_shares_146 : decode cX12_shares 146 = .ok (.iload 4, 2) := by decide +kernel
theorem dX12_shares_148 : decode cX12_shares 148 = .ok (.ireturn, 1) := by decide +kernel
theorem dX12_roomOf_0 : decode cX12_roomOf 0 = .ok (.aload_n 0, 1) := by decide +kernel
theorem dX12_roomOf_1 : decode cX12_roomOf 1 = .ok (.iload_n 1, 1) := by decide +kernel
theorem dX12_roomOf_2 : decode cX12_roomOf 2 = .ok (.iconst 0, 1) := by decide +kernel
theorem dX12_roomOf_3 : decode cX12_roomOf 3 = .ok (.invokevirtual 68, 3) := by decide +kernel
theorem dX12_roomOf_6 : decode cX12_roomOf 6 = .ok (.aload_n 0, 1) := by decide +kernel
theorem dX12_roomOf_7 : decode cX12_roomOf 7 = .ok (.iload_n 1, 1) := by decide +kernel
theorem dX12_roomOf_8 : decode cX12_roomOf 8 = .ok (.aload_n 0, 1) := by decide +kernel
theorem dX12_roomOf_9 : decode cX12_roomOf 9 = .ok (.getfield 13, 3) := by decide +kernel
theorem dX12_roomOf_12 : decode cX12_roomOf 12 = .ok (.iconst 3, 1) := by decide +kernel
theorem dX12_roomOf_13 : decode cX12_roomOf 13 = .ok (.iaload, 1) := by decide +kernel
theorem dX12_roomOf_14 : decode cX12_roomOf 14 = .ok (.invokevirtual 283, 3) := by decide +kernel
theorem dX12_roomOf_17 : decode cX12_roomOf 17 = .ok (.isub, 1) := by decide +kernel
theorem dX12_roomOf_18 : decode cX12_roomOf 18 = .ok (.ireturn, 1) := by decide +kernel
theorem dX12_could_0 : decode cX12_could 0 = .ok (.aload_n 0, 1) := by decide +kernel
theorem dX12_could_1 : decode cX12_could 1 = .ok (.iconst 0, 1) := by decide +kernel
theorem dX12_could_2 : decode cX12_could 2 = .ok (.putfield 3, 3) := by decide +kernel
theorem dX12_could_5 : decode cX12_could 5 = .ok (.aload_n 0, 1) := by decide +kernel
theorem dX12_could_6 : decode cX12_could 6 = .ok (.aload_n 0, 1) := by decide +kernel
theorem dX12_could_7 : decode cX12_could 7 = .ok (.iload_n 1, 1) := by decide +kernel
theorem dX12_could_8 : decode cX12_could 8 = .ok (.invokevirtual 335, 3) := by decide +kernel
theorem dX12_could_11 : decode cX12_could 11 = .ok (.iconst 1, 1) := by decide +kernel
theorem dX12_could_12 : decode cX12_could 12 = .ok (.invokevirtual 253, 3) := by decide +kernel
theorem dX12_could_15 : decode cX12_could 15 = .ok (.ifCond .eq 5, 3) := by decide +kernel
theorem dX12_could_18 : decode cX12_could 18 = .ok (.iconst 0, 1) := by decide +kernel
theorem dX12_could_19 : decode cX12_could 19 = .ok (.ireturn, 1) := by decide +kernel
theorem dX12_could_20 : decode cX12_could 20 = .ok (.iconst 0, 1) := by decide +kernel
theorem dX12_could_21 : decode cX12_could 21 = .ok (.istore_n 2, 1) := by decide +kernel
theorem dX12_could_22 : decode cX12_could 22 = .ok (.iconst 0, 1) := by decide +kernel
theorem dX12_could_23 : decode cX12_could 23 = .ok (.istore_n 3, 1) := by decide +kernel
theorem dX12_could_24 : decode cX12_could 24 = .ok (.iload_n 3, 1) := by decide +kernel
theorem dX12_could_25 : decode cX12_could 25 = .ok (.aload_n 0, 1) := by decide +kernel
theorem dX12_could_26 : decode cX12_could 26 = .ok (.invokevirtual 74, 3) := by decide +kernel
theorem dX12_could_29 : decode cX12_could 29 = .ok (.if_icmp .ge 41, 3) := by decide +kernel
theorem dX12_could_32 : decode cX12_could 32 = .ok (.iload_n 2, 1) := by decide +kernel
theorem dX12_could_33 : decode cX12_could 33 = .ok (.aload_n 0, 1) := by decide +kernel
theorem dX12_could_34 : decode cX12_could 34 = .ok (.iload_n 3, 1) := by decide +kernel
theorem dX12_could_35 : decode cX12_could 35 = .ok (.invokevirtual 296, 3) := by decide +kernel
theorem dX12_could_38 : decode cX12_could 38 = .ok (.ifCond .eq 23, 3) := by decide +kernel
theorem dX12_could_41 : decode cX12_could 41 = .ok (.aload_n 0, 1) := by decide +kernel
theorem dX12_could_42 : decode cX12_could 42 = .ok (.iload_n 3, 1) := by decide +kernel
theorem dX12_could_43 : decode cX12_could 43 = .ok (.invokevirtual 405, 3) := by decide +kernel
theorem dX12_could_46 : decode cX12_could 46 = .ok (.aload_n 0, 1) := by decide +kernel
theorem dX12_could_47 : decode cX12_could 47 = .ok (.iload_n 1, 1) := by decide +kernel
theorem dX12_could_48 : decode cX12_could 48 = .ok (.iconst 1, 1) := by decide +kernel
theorem dX12_could_49 : decode cX12_could 49 = .ok (.invokevirtual 68, 3) := by decide +kernel
theorem dX12_could_52 : decode cX12_could 52 = .ok (.if_icmp .lt 9, 3) := by decide +kernel
theorem dX12_could_55 : decode cX12_could 55 = .ok (.iconst 1, 1) := by decide +kernel
theorem dX12_could_56 : decode cX12_could 56 = .ok (.iload_n 3, 1) := by decide +kernel
theorem dX12_could_57 : decode cX12_could 57 = .ok (.ishl, 1) := by decide +kernel
theorem dX12_could_58 : decode cX12_could 58 = .ok (.goto 4, 3) := by decide +kernel
theorem dX12_could_61 : decode cX12_could 61 = .ok (.iconst 0, 1) := by decide +kernel
theorem dX12_could_62 : decode cX12_could 62 = .ok (.ior, 1) := by decide +kernel
theorem dX12_could_63 : decode cX12_could 63 = .ok (.istore_n 2, 1) := by decide +kernel
theorem dX12_could_64 : decode cX12_could 64 = .ok (.iinc 3 1, 3) := by decide +kernel
theorem dX12_could_67 : decode cX12_could 67 = .ok (.goto (-43), 3) := by decide +kernel
theorem dX12_could_70 : decode cX12_could 70 = .ok (.iload_n 2, 1) := by decide +kernel
theorem dX12_could_71 : decode cX12_could 71 = .ok (.ireturn, 1) := by decide +kernel
theorem dX12_roomsOf_0 : decode cX12_roomsOf 0 = .ok (.iconst 0, 1) := by decide +kernel
theorem dX12_roomsOf_1 : decode cX12_roomsOf 1 = .ok (.istore_n 2, 1) := by decide +kernel
theorem dX12_roomsOf_2 : decode cX12_roomsOf 2 = .ok (.iconst 0, 1) := by decide +kernel
theorem dX12_roomsOf_3 : decode cX12_roomsOf 3 = .ok (.istore_n 3, 1) := by decide +kernel
theorem dX12_roomsOf_4 : decode cX12_roomsOf 4 = .ok (.iload_n 3, 1) := by decide +kernel
theorem dX12_roomsOf_5 : decode cX12_roomsOf 5 = .ok (.aload_n 0, 1) := by decide +kernel
theorem dX12_roomsOf_6 : decode cX12_roomsOf 6 = .ok (.invokevirtual 74, 3) := by decide +kernel
theorem dX12_roomsOf_9 : decode cX12_roomsOf 9 = .ok (.if_icmp .ge 33, 3) := by decide +kernel
theorem dX12_roomsOf_12 : decode cX12_roomsOf 12 = .ok (.iload_n 2, 1) := by decide +kernel
theorem dX12_roomsOf_13 : decode cX12_roomsOf 13 = .ok (.iload_n 1, 1) := by decide +kernel
theorem dX12_roomsOf_14 : decode cX12_roomsOf 14 = .ok (.iload_n 3, 1) := by decide +kernel
theorem dX12_roomsOf_15 : decode cX12_roomsOf 15 = .ok (.invokestatic 332, 3) := by decide +kernel
theorem dX12_roomsOf_18 : decode cX12_roomsOf 18 = .ok (.ifCond .eq 15, 3) := by decide +kernel
theorem dX12_roomsOf_21 : decode cX12_roomsOf 21 = .ok (.iconst 0, 1) := by decide +kernel
theorem dX12_roomsOf_22 : decode cX12_roomsOf 22 = .ok (.aload_n 0, 1) := by decide +kernel
theorem dX12_roomsOf_23 : decode cX12_roomsOf 23 = .ok (.iload_n 3, 1) := by decide +kernel
theorem dX12_roomsOf_24 : decode cX12_roomsOf 24 = .ok (.invokevirtual 405, 3) := by decide +kernel
theorem dX12_roomsOf_27 : decode cX12_roomsOf 27 = .ok (.invokestatic 280, 3) := by decide +kernel
theorem dX12_roomsOf_30 : decode cX12_roomsOf 30 = .ok (.goto 4, 3) := by decide +kernel
theorem dX12_roomsOf_33 : decode cX12_roomsOf 33 = .ok (.iconst 0, 1) := by decide +kernel
theorem dX12_roomsOf_34 : decode cX12_roomsOf 34 = .ok (.iadd, 1) := by decide +kernel
theorem dX12_roomsOf_35 : decode cX12_roomsOf 35 = .ok (.istore_n 2, 1) := by decide +kernel
theorem dX12_roomsOf_36 : decode cX12_roomsOf 36 = .ok (.iinc 3 1, 3) := by decide +kernel
theorem dX12_roomsOf_39 : decode cX12_roomsOf 39 = .ok (.goto (-35), 3) := by decide +kernel
theorem dX12_roomsOf_42 : decode cX12_roomsOf 42 = .ok (.iload_n 2, 1) := by decide +kernel
theorem dX12_roomsOf_43 : decode cX12_roomsOf 43 = .ok (.ireturn, 1) := by decide +kernel
theorem dX12_fewest_0 : decode cX12_fewest 0 = .ok (.aload_n 0, 1) := by decide +kernel
theorem dX12_fewest_1 : decode cX12_fewest 1 = .ok (.iconst 0, 1) := by decide +kernel
theorem dX12_fewest_2 : decode cX12_fewest 2 = .ok (.putfield 3, 3) := by decide +kernel
theorem dX12_fewest_5 : decode cX12_fewest 5 = .ok (.aload_n 0, 1) := by decide +kernel
theorem dX12_fewest_6 : decode cX12_fewest 6 = .ok (.invokevirtual 393, 3) := by decide +kernel
theorem dX12_fewest_9 : decode cX12_fewest 9 = .ok (.istore_n 1, 1) := by decide +kernel
theorem dX12_fewest_10 : decode cX12_fewest 10 = .ok (.iconst (-1), 1) := by decide +kernel
theorem dX12_fewest_11 : decode cX12_fewest 11 = .ok (.istore_n 2, 1) := by decide +kernel
theorem dX12_fewest_12 : decode cX12_fewest 12 = .ok (.iload_n 1, 1) := by decide +kernel
theorem dX12_fewest_13 : decode cX12_fewest 13 = .ok (.istore_n 3, 1) := by decide +kernel
theorem dX12_fewest_14 : decode cX12_fewest 14 = .ok (.iload_n 3, 1) := by decide +kernel
theorem dX12_fewest_15 : decode cX12_fewest 15 = .ok (.ifCond .lt 53, 3) := by decide +kernel
theorem dX12_fewest_18 : decode cX12_fewest 18 = .ok (.iload_n 3, 1) := by decide +kernel
theorem dX12_fewest_19 : decode cX12_fewest 19 = .ok (.iload_n 1, 1) := by decide +kernel
theorem dX12_fewest_20 : decode cX12_fewest 20 = .ok (.iconst (-1), 1) := by decide +kernel
theorem dX12_fewest_21 : decode cX12_fewest 21 = .ok (.ixor, 1) := by decide +kernel
theorem dX12_fewest_22 : decode cX12_fewest 22 = .ok (.iand, 1) := by decide +kernel
theorem dX12_fewest_23 : decode cX12_fewest 23 = .ok (.ifCond .ne 39, 3) := by decide +kernel
theorem dX12_fewest_26 : decode cX12_fewest 26 = .ok (.iload_n 2, 1) := by decide +kernel
theorem dX12_fewest_27 : decode cX12_fewest 27 = .ok (.ifCond .lt 17, 3) := by decide +kernel
theorem dX12_fewest_30 : decode cX12_fewest 30 = .ok (.iload_n 3, 1) := by decide +kernel
theorem dX12_fewest_31 : decode cX12_fewest 31 = .ok (.invokestatic 379, 3) := by decide +kernel
theorem dX12_fewest_34 : decode cX12_fewest 34 = .ok (.iload_n 2, 1) := by decide +kernel
theorem dX12_fewest_35 : decode cX12_fewest 35 = .ok (.invokestatic 379, 3) := by decide +kernel
theorem dX12_fewest_38 : decode cX12_fewest 38 = .ok (.if_icmp .le 6, 3) := by decide +kernel
theorem dX12_fewest_41 : decode cX12_fewest 41 = .ok (.goto 21, 3) := by decide +kernel
theorem dX12_fewest_44 : decode cX12_fewest 44 = .ok (.aload_n 0, 1) := by decide +kernel
theorem dX12_fewest_45 : decode cX12_fewest 45 = .ok (.iload_n 3, 1) := by decide +kernel
theorem dX12_fewest_46 : decode cX12_fewest 46 = .ok (.invokevirtual 408, 3) := by decide +kernel
theorem dX12_fewest_49 : decode cX12_fewest 49 = .ok (.aload_n 0, 1) := by decide +kernel
theorem dX12_fewest_50 : decode cX12_fewest 50 = .ok (.invokevirtual 312, 3) := by decide +kernel
theorem dX12_fewest_53 : decode cX12_fewest 53 = .ok (.if_icmp .lt 7, 3) := by decide +kernel
theorem dX12_fewest_56 : decode cX12_fewest 56 = .ok (.iload_n 3, 1) := by decide +kernel
theorem dX12_fewest_57 : decode cX12_fewest 57 = .ok (.goto 4, 3) := by decide +kernel
theorem dX12_fewest_60 : decode cX12_fewest 60 = .ok (.iload_n 2, 1) := by decide +kernel
theorem dX12_fewest_61 : decode cX12_fewest 61 = .ok (.istore_n 2, 1) := by decide +kernel
theorem dX12_fewest_62 : decode cX12_fewest 62 = .ok (.iinc 3 (-1), 3) := by decide +kernel
theorem dX12_fewest_65 : decode cX12_fewest 65 = .ok (.goto (-51), 3) := by decide +kernel
theorem dX12_fewest_68 : decode cX12_fewest 68 = .ok (.iload_n 2, 1) := by decide +kernel
theorem dX12_fewest_69 : decode cX12_fewest 69 = .ok (.ireturn, 1) := by decide +kernel
theorem dX12_quiet_0 : decode cX12_quiet 0 = .ok (.aload_n 0, 1) := by decide +kernel
theorem dX12_quiet_1 : decode cX12_quiet 1 = .ok (.iconst 0, 1) := by decide +kernel
theorem dX12_quiet_2 : decode cX12_quiet 2 = .ok (.putfield 3, 3) := by decide +kernel
theorem dX12_quiet_5 : decode cX12_quiet 5 = .ok (.iconst 0, 1) := by decide +kernel
theorem dX12_quiet_6 : decode cX12_quiet 6 = .ok (.istore_n 2, 1) := by decide +kernel
theorem dX12_quiet_7 : decode cX12_quiet 7 = .ok (.iconst 1, 1) := by decide +kernel
theorem dX12_quiet_8 : decode cX12_quiet 8 = .ok (.istore_n 3, 1) := by decide +kernel
theorem dX12_quiet_9 : decode cX12_quiet 9 = .ok (.iload_n 3, 1) := by decide +kernel
theorem dX12_quiet_10 : decode cX12_quiet 10 = .ok (.bipush 7, 2) := by decide +kernel
theorem dX12_quiet_12 : decode cX12_quiet 12 = .ok (.if_icmp .ge 36, 3) := by decide +kernel
theorem dX12_quiet_15 : decode cX12_quiet 15 = .ok (.aload_n 0, 1) := by decide +kernel
theorem dX12_quiet_16 : decode cX12_quiet 16 = .ok (.aload_n 0, 1) := by decide +kernel
theorem dX12_quiet_17 : decode cX12_quiet 17 = .ok (.invokevirtual 393, 3) := by decide +kernel
theorem dX12_quiet_20 : decode cX12_quiet 20 = .ok (.iload_n 3, 1) := by decide +kernel
theorem dX12_quiet_21 : decode cX12_quiet 21 = .ok (.invokevirtual 396, 3) := by decide +kernel
theorem dX12_quiet_24 : decode cX12_quiet 24 = .ok (.aload_n 0, 1) := by decide +kernel
theorem dX12_quiet_25 : decode cX12_quiet 25 = .ok (.aload_n 0, 1) := by decide +kernel
theorem dX12_quiet_26 : decode cX12_quiet 26 = .ok (.invokevirtual 393, 3) := by decide +kernel
theorem dX12_quiet_29 : decode cX12_quiet 29 = .ok (.iload_n 2, 1) := by decide +kernel
theorem dX12_quiet_30 : decode cX12_quiet 30 = .ok (.invokevirtual 396, 3) := by decide +kernel
theorem dX12_quiet_33 : decode cX12_quiet 33 = .ok (.if_icmp .ge 7, 3) := by decide +kernel
theorem dX12_quiet_36 : decode cX12_quiet 36 = .ok (.iload_n 3, 1) := by decide +kernel
theorem dX12_quiet_37 : decode cX12_quiet 37 = .ok (.goto 4, 3) := by decide +kernel
theorem dX12_quiet_40 : decode cX12_quiet 40 = .ok (.iload_n 2, 1) := by decide +kernel
theorem dX12_quiet_41 : decode cX12_quiet 41 = .ok (.istore_n 2, 1) := by decide +kernel
theorem dX12_quiet_42 : decode cX12_quiet 42 = .ok (.iinc 3 1, 3) := by decide +kernel
theorem dX12_quiet_45 : decode cX12_quiet 45 = .ok (.goto (-36), 3) := by decide +kernel
theorem dX12_quiet_48 : decode cX12_quiet 48 = .ok (.iload_n 1, 1) := by decide +kernel
theorem dX12_quiet_49 : decode cX12_quiet 49 = .ok (.ifCond .eq 15, 3) := by decide +kernel
theorem dX12_quiet_52 : decode cX12_quiet 52 = .ok (.aload_n 0, 1) := by decide +kernel
theorem dX12_quiet_53 : decode cX12_quiet 53 = .ok (.aload_n 0, 1) := by decide +kernel
theorem dX12_quiet_54 : decode cX12_quiet 54 = .ok (.invokevirtual 393, 3) := by decide +kernel
theorem dX12_quiet_57 : decode cX12_quiet 57 = .ok (.iload_n 2, 1) := by decide +kernel
theorem dX12_quiet_58 : decode cX12_quiet 58 = .ok (.invokevirtual 396, 3) := by decide +kernel
theorem dX12_quiet_61 : decode cX12_quiet 61 = .ok (.goto 4, 3) := by decide +kernel
theorem dX12_quiet_64 : decode cX12_quiet 64 = .ok (.iload_n 2, 1) := by decide +kernel
theorem dX12_quiet_65 : decode cX12_quiet 65 = .ok (.ireturn, 1) := by decide +kernel
theorem dX12_parted_0 : decode cX12_parted 0 = .ok (.aload_n 0, 1) := by decide +kernel
theorem dX12_parted_1 : decode cX12_parted 1 = .ok (.iconst 0, 1) := by decide +kernel
theorem dX12_parted_2 : decode cX12_parted 2 = .ok (.putfield 3, 3) := by decide +kernel
theorem dX12_parted_5 : decode cX12_parted 5 = .ok (.aload_n 0, 1) := by decide +kernel
theorem dX12_parted_6 : decode cX12_parted 6 = .ok (.invokevirtual 393, 3) := by decide +kernel
theorem dX12_parted_9 : decode cX12_parted 9 = .ok (.istore_n 2, 1) := by decide +kernel
theorem dX12_parted_10 : decode cX12_parted 10 = .ok (.aload_n 0, 1) := by decide +kernel
theorem dX12_parted_11 : decode cX12_parted 11 = .ok (.iload_n 2, 1) := by decide +kernel
theorem dX12_parted_12 : decode cX12_parted 12 = .ok (.invokevirtual 390, 3) := by decide +kernel
theorem dX12_parted_15 : decode cX12_parted 15 = .ok (.istore_n 3, 1) := by decide +kernel
theorem dX12_parted_16 : decode cX12_parted 16 = .ok (.iconst 0, 1) := by decide +kernel
theorem dX12_parted_17 : decode cX12_parted 17 = .ok (.istore 4, 2) := by decide +kernel
theorem dX12_parted_19 : decode cX12_parted 19 = .ok (.iload_n 3, 1) := by decide +kernel
theorem dX12_parted_20 : decode cX12_parted 20 = .ok (.istore 5, 2) := by decide +kernel
theorem dX12_parted_22 : decode cX12_parted 22 = .ok (.iconst 1, 1) := by decide +kernel
theorem dX12_parted_23 : decode cX12_parted 23 = .ok (.istore 6, 2) := by decide +kernel
theorem dX12_parted_25 : decode cX12_parted 25 = .ok (.iload 6, 2) := by decide +kernel
theorem dX12_parted_27 : decode cX12_parted 27 = .ok (.iload_n 2, 1) := by decide +kernel
theorem dX12_parted_28 : decode cX12_parted 28 = .ok (.if_icmp .gt 51, 3) := by decide +kernel
theorem dX12_parted_31 : decode cX12_parted 31 = .ok (.iload_n 3, 1) := by decide +kernel
theorem dX12_parted_32 : decode cX12_parted 32 = .ok (.iconst 2, 1) := by decide +kernel
theorem dX12_parted_33 : decode cX12_parted 33 = .ok (.aload_n 0, 1) := by decide +kernel
theorem dX12_parted_34 : decode cX12_parted 34 = .ok (.iload 6, 2) := by decide +kernel
theorem dX12_parted_36 : decode cX12_parted 36 = .ok (.invokevirtual 390, 3) := by decide +kernel
theorem dX12_parted_39 : decode cX12_parted 39 = .ok (.imul, 1) := by decide +kernel
theorem dX12_parted_40 : decode cX12_parted 40 = .ok (.isub, 1) := by decide +kernel
theorem dX12_parted_41 : decode cX12_parted 41 = .ok (.invokestatic 411, 3) := by decide +kernel
theorem dX12_parted_44 : decode cX12_parted 44 = .ok (.istore 7, 2) := by decide +kernel
theorem dX12_parted_46 : decode cX12_parted 46 = .ok (.iload 6, 2) := by decide +kernel
theorem dX12_parted_48 : decode cX12_parted 48 = .ok (.iload_n 2, 1) := by decide +kernel
theorem dX12_parted_49 : decode cX12_parted 49 = .ok (.iconst (-1), 1) := by decide +kernel
theorem dX12_parted_50 : decode cX12_parted 50 = .ok (.ixor, 1) := by decide +kernel
theorem dX12_parted_51 : decode cX12_parted 51 = .ok (.iand, 1) := by decide +kernel
theorem dX12_parted_52 : decode cX12_parted 52 = .ok (.ifCond .ne 21, 3) := by decide +kernel
theorem dX12_parted_55 : decode cX12_parted 55 = .ok (.iload 7, 2) := by decide +kernel
theorem dX12_parted_57 : decode cX12_parted 57 = .ok (.iload 5, 2) := by decide +kernel
theorem dX12_parted_59 : decode cX12_parted 59 = .ok (.if_icmp .lt 6, 3) := by decide +kernel
theorem dX12_parted_62 : decode cX12_parted 62 = .ok (.goto 11, 3) := by decide +kernel
theorem dX12_parted_65 : decode cX12_parted 65 = .ok (.iload 6, 2) := by decide +kernel
theorem dX12_parted_67 : decode cX12_parted 67 = .ok (.istore 4, 2) := by decide +kernel
theorem dX12_parted_69 : decode cX12_parted 69 = .ok (.iload 7, 2) := by decide +kernel
theorem dX12_parted_71 : decode cX12_parted 71 = .ok (.istore 5, 2) := by decide +kernel
theorem dX12_parted_73 : decode cX12_parted 73 = .ok (.iinc 6 1, 3) := by decide +kernel
theorem dX12_parted_76 : decode cX12_parted 76 = .ok (.goto (-51), 3) := by decide +kernel
theorem dX12_parted_79 : decode cX12_parted 79 = .ok (.iload_n 1, 1) := by decide +kernel
theorem dX12_parted_80 : decode cX12_parted 80 = .ok (.ifCond .eq 8, 3) := by decide +kernel
theorem dX12_parted_83 : decode cX12_parted 83 = .ok (.iload 4, 2) := by decide +kernel
theorem dX12_parted_85 : decode cX12_parted 85 = .ok (.goto 5, 3) := by decide +kernel
theorem dX12_parted_88 : decode cX12_parted 88 = .ok (.iload 5, 2) := by decide +kernel
theorem dX12_parted_90 : decode cX12_parted 90 = .ok (.ireturn, 1) := by decide +kernel
theorem dX12_rank_0 : decode cX12_rank 0 = .ok (.aload_n 0, 1) := by decide +kernel
theorem dX12_rank_1 : decode cX12_rank 1 = .ok (.iconst 0, 1) := by decide +kernel
theorem dX12_rank_2 : decode cX12_rank 2 = .ok (.putfield 3, 3) := by decide +kernel
theorem dX12_rank_5 : decode cX12_rank 5 = .ok (.aload_n 0, 1) := by decide +kernel
theorem dX12_rank_6 : decode cX12_rank 6 = .ok (.aload_n 0, 1) := by decide +kernel
theorem dX12_rank_7 : decode cX12_rank 7 = .ok (.iload_n 1, 1) := by decide +kernel
theorem dX12_rank_8 : decode cX12_rank 8 = .ok (.invokevirtual 335, 3) := by decide +kernel
theorem dX12_rank_11 : decode cX12_rank 11 = .ok (.iconst 1, 1) := by decide +kernel
theorem dX12_rank_12 : decode cX12_rank 12 = .ok (.invokevirtual 253, 3) := by decide +kernel
theorem dX12_rank_15 : decode cX12_rank 15 = .ok (.ifCond .ne 24, 3) := by decide +kernel
theorem dX12_rank_18 : decode cX12_rank 18 = .ok (.aload_n 0, 1) := by decide +kernel
theorem dX12_rank_19 : decode cX12_rank 19 = .ok (.aload_n 0, 1) := by decide +kernel
theorem dX12_rank_20 : decode cX12_rank 20 = .ok (.iload_n 1, 1) := by decide +kernel
theorem dX12_rank_21 : decode cX12_rank 21 = .ok (.invokevirtual 296, 3) := by decide +kernel
theorem dX12_rank_24 : decode cX12_rank 24 = .ok (.ifCond .ne 7, 3) := by decide +kernel
theorem dX12_rank_27 : decode cX12_rank 27 = .ok (.iconst 1, 1) := by decide +kernel
theorem dX12_rank_28 : decode cX12_rank 28 = .ok (.goto 4, 3) := by decide +kernel
theorem dX12_rank_31 : decode cX12_rank 31 = .ok (.iconst 0, 1) := by decide +kernel
theorem dX12_rank_32 : decode cX12_rank 32 = .ok (.iconst 2, 1) := by decide +kernel
theorem dX12_rank_33 : decode cX12_rank 33 = .ok (.invokevirtual 253, 3) := by decide +kernel
theorem dX12_rank_36 : decode cX12_rank 36 = .ok (.ifCond .eq 5, 3) := by decide +kernel
theorem dX12_rank_39 : decode cX12_rank 39 = .ok (.iconst 0, 1) := by decide +kernel
theorem dX12_rank_40 : decode cX12_rank 40 = .ok (.ireturn, 1) := by decide +kernel
theorem dX12_rank_41 : decode cX12_rank 41 = .ok (.aload_n 0, 1) := by decide +kernel
theorem dX12_rank_42 : decode cX12_rank 42 = .ok (.invokevirtual 350, 3) := by decide +kernel
theorem dX12_rank_45 : decode cX12_rank 45 = .ok (.aload_n 0, 1) := by decide +kernel
theorem dX12_rank_46 : decode cX12_rank 46 = .ok (.iconst 1, 1) := by decide +kernel
theorem dX12_rank_47 : decode cX12_rank 47 = .ok (.invokevirtual 325, 3) := by decide +kernel
theorem dX12_rank_50 : decode cX12_rank 50 = .ok (.aload_n 0, 1) := by decide +kernel
theorem dX12_rank_51 : decode cX12_rank 51 = .ok (.invokevirtual 353, 3) := by decide +kernel
theorem dX12_rank_54 : decode cX12_rank 54 = .ok (.iconst 0, 1) := by decide +kernel
theorem dX12_rank_55 : decode cX12_rank 55 = .ok (.istore_n 2, 1) := by decide +kernel
theorem dX12_rank_56 : decode cX12_rank 56 = .ok (.iconst 0, 1) := by decide +kernel
theorem dX12_rank_57 : decode cX12_rank 57 = .ok (.istore_n 3, 1) := by decide +kernel
theorem dX12_rank_58 : decode cX12_rank 58 = .ok (.iload_n 3, 1) := by decide +kernel
theorem dX12_rank_59 : decode cX12_rank 59 = .ok (.aload_n 0, 1) := by decide +kernel
theorem dX12_rank_60 : decode cX12_rank 60 = .ok (.invokevirtual 74, 3) := by decide +kernel
theorem dX12_rank_63 : decode cX12_rank 63 = .ok (.if_icmp .ge 40, 3) := by decide +kernel
theorem dX12_rank_66 : decode cX12_rank 66 = .ok (.iload_n 2, 1) := by decide +kernel
theorem dX12_rank_67 : decode cX12_rank 67 = .ok (.aload_n 0, 1) := by decide +kernel
theorem dX12_rank_68 : decode cX12_rank 68 = .ok (.iload_n 3, 1) := by decide +kernel
theorem dX12_rank_69 : decode cX12_rank 69 = .ok (.invokevirtual 296, 3) := by decide +kernel
theorem dX12_rank_72 : decode cX12_rank 72 = .ok (.ifCond .eq 22, 3) := by decide +kernel
theorem dX12_rank_75 : decode cX12_rank 75 = .ok (.aload_n 0, 1) := by decide +kernel
theorem dX12_rank_76 : decode cX12_rank 76 = .ok (.getfield 48, 3) := by decide +kernel
theorem dX12_rank_79 : decode cX12_rank 79 = .ok (.iload_n 3, 1) := by decide +kernel
theorem dX12_rank_80 : decode cX12_rank 80 = .ok (.iaload, 1) := by decide +kernel
theorem dX12_rank_81 : decode cX12_rank 81 = .ok (.aload_n 0, 1) := by decide +kernel
theorem dX12_rank_82 : decode cX12_rank 82 = .ok (.getfield 48, 3) := by decide +kernel
theorem dX12_rank_85 : decode cX12_rank 85 = .ok (.iload_n 1, 1) := by decide +kernel
theorem dX12_rank_86 : decode cX12_rank 86 = .ok (.iaload, 1) := by decide +kernel
theorem dX12_rank_87 : decode cX12_rank 87 = .ok (.if_icmp .le 7, 3) := by decide +kernel
theorem dX12_rank_90 : decode cX12_rank 90 = .ok (.iconst 1, 1) := by decide +kernel
theorem dX12_rank_91 : decode cX12_rank 91 = .ok (.goto 4, 3) := by decide +kernel
theorem dX12_rank_94 : decode cX12_rank 94 = .ok (.iconst 0, 1) := by decide +kernel
theorem dX12_rank_95 : decode cX12_rank 95 = .ok (.iadd, 1) := by decide +kernel
theorem dX12_rank_96 : decode cX12_rank 96 = .ok (.istore_n 2, 1) := by decide +kernel
theorem dX12_rank_97 : decode cX12_rank 97 = .ok (.iinc 3 1, 3) := by decide +kernel
theorem dX12_rank_100 : decode cX12_rank 100 = .ok (.goto (-42), 3) := by decide +kernel
theorem dX12_rank_103 : decode cX12_rank 103 = .ok (.iload_n 2, 1) := by decide +kernel
theorem dX12_rank_104 : decode cX12_rank 104 = .ok (.ireturn, 1) := by decide +kernel
theorem dX12_trial_0 : decode cX12_trial 0 = .ok (.aload_n 0, 1) := by decide +kernel
theorem dX12_trial_1 : decode cX12_trial 1 = .ok (.iconst 0, 1) := by decide +kernel
theorem dX12_trial_2 : decode cX12_trial 2 = .ok (.putfield 3, 3) := by decide +kernel
theorem dX12_trial_5 : decode cX12_trial 5 = .ok (.aload_n 0, 1) := by decide +kernel
theorem dX12_trial_6 : decode cX12_trial 6 = .ok (.iload_n 1, 1) := by decide +kernel
theorem dX12_trial_7 : decode cX12_trial 7 = .ok (.iconst 0, 1) := by decide +kernel
theorem dX12_trial_8 : decode cX12_trial 8 = .ok (.bipush 40, 2) := by decide +kernel
theorem dX12_trial_10 : decode cX12_trial 10 = .ok (.invokestatic 78, 3) := by decide +kernel
theorem dX12_trial_13 : decode cX12_trial 13 = .ok (.ifCond .ne 7, 3) := by decide +kernel
theorem dX12_trial_16 : decode cX12_trial 16 = .ok (.iconst 1, 1) := by decide +kernel
theorem dX12_trial_17 : decode cX12_trial 17 = .ok (.goto 4, 3) := by decide +kernel
theorem dX12_trial_20 : decode cX12_trial 20 = .ok (.iconst 0, 1) := by decide +kernel
theorem dX12_trial_21 : decode cX12_trial 21 = .ok (.iconst 1, 1) := by decide +kernel
theorem dX12_trial_22 : decode cX12_trial 22 = .ok (.invokevirtual 253, 3) := by decide +kernel
theorem dX12_trial_25 : decode cX12_trial 25 = .ok (.ifCond .eq 5, 3) := by decide +kernel
theorem dX12_trial_28 : decode cX12_trial 28 = .ok (.iconst 0, 1) := by decide +kernel
theorem dX12_trial_29 : decode cX12_trial 29 = .ok (.ireturn, 1) := by decide +kernel
theorem dX12_trial_30 : decode cX12_trial 30 = .ok (.aload_n 0, 1) := by decide +kernel
theorem dX12_trial_31 : decode cX12_trial 31 = .ok (.invokevirtual 350, 3) := by decide +kernel
theorem dX12_trial_34 : decode cX12_trial 34 = .ok (.iconst 0, 1) := by decide +kernel
theorem dX12_trial_35 : decode cX12_trial 35 = .ok (.istore_n 3, 1) := by decide +kernel
theorem dX12_trial_36 : decode cX12_trial 36 = .ok (.iload_n 3, 1) := by decide +kernel
theorem dX12_trial_37 : decode cX12_trial 37 = .ok (.iload_n 1, 1) := by decide +kernel
theorem dX12_trial_38 : decode cX12_trial 38 = .ok (.if_icmp .ge 14, 3) := by decide +kernel
theorem dX12_trial_41 : decode cX12_trial 41 = .ok (.aload_n 0, 1) := by decide +kernel
theorem dX12_trial_42 : decode cX12_trial 42 = .ok (.iconst 0, 1) := by decide +kernel
theorem dX12_trial_43 : decode cX12_trial 43 = .ok (.invokevirtual 325, 3) := by decide +kernel
theorem dX12_trial_46 : decode cX12_trial 46 = .ok (.iinc 3 1, 3) := by decide +kernel
theorem dX12_trial_49 : decode cX12_trial 49 = .ok (.goto (-13), 3) := by decide +kernel
theorem dX12_trial_52 : decode cX12_trial 52 = .ok (.iload_n 2, 1) := by decide +kernel
theorem dX12_trial_53 : decode cX12_trial 53 = .ok (.ifCond .eq 10, 3) := by decide +kernel
theorem dX12_trial_56 : decode cX12_trial 56 = .ok (.aload_n 0, 1) := by decide +kernel
theorem dX12_trial_57 : decode cX12_trial 57 = .ok (.invokevirtual 312, 3) := by decide +kernel
theorem dX12_trial_60 : decode cX12_trial 60 = .ok (.goto 18, 3) := by decide +kernel
theorem dX12_trial_63 : decode cX12_trial 63 = .ok (.aload_n 0, 1) := by decide +kernel
theorem dX12_trial_64 : decode cX12_trial 64 = .ok (.getfield 13, 3) := by decide +kernel
theorem dX12_trial_67 : decode cX12_trial 67 = .ok (.bipush 9, 2) := by decide +kernel
theorem dX12_trial_69 : decode cX12_trial 69 = .ok (.iaload, 1) := by decide +kernel
theorem dX12_trial_70 : decode cX12_trial 70 = .ok (.aload_n 0, 1) := by decide +kernel
theorem dX12_trial_71 : decode cX12_trial 71 = .ok (.getfield 23, 3) := by decide +kernel
theorem dX12_trial_74 : decode cX12_trial 74 = .ok (.bipush 9, 2) := by decide +kernel
theorem dX12_trial_76 : decode cX12_trial 76 = .ok (.iaload, 1) := by decide +kernel
theorem dX12_trial_77 : decode cX12_trial 77 = .ok (.isub, 1) := by decide +kernel
theorem dX12_trial_78 : decode cX12_trial 78 = .ok (.istore_n 3, 1) := by decide +kernel
theorem dX12_trial_79 : decode cX12_trial 79 = .ok (.aload_n 0, 1) := by decide +kernel
theorem dX12_trial_80 : decode cX12_trial 80 = .ok (.invokevirtual 353, 3) := by decide +kernel
theorem dX12_trial_83 : decode cX12_trial 83 = .ok (.iload_n 3, 1) := by decide +kernel
theorem dX12_trial_84 : decode cX12_trial 84 = .ok (.ireturn, 1) := by decide +kernel
theorem dX12_span_0 : decode cX12_span 0 = .ok (.aload_n 0, 1) := by decide +kernel
theorem dX12_span_1 : decode cX12_span 1 = .ok (.iconst 0, 1) := by decide +kernel
theorem dX12_span_2 : decode cX12_span 2 = .ok (.putfield 3, 3) := by decide +kernel
theorem dX12_span_5 : decode cX12_span 5 = .ok (.aload_n 0, 1) := by decide +kernel
theorem dX12_span_6 : decode cX12_span 6 = .ok (.iload_n 1, 1) := by decide +kernel
theorem dX12_span_7 : decode cX12_span 7 = .ok (.iconst 0, 1) := by decide +kernel
theorem dX12_span_8 : decode cX12_span 8 = .ok (.bipush 40, 2) := by decide +kernel
theorem dX12_span_10 : decode cX12_span 10 = .ok (.invokestatic 78, 3) := by decide +kernel
theorem dX12_span_13 : decode cX12_span 13 = .ok (.ifCond .ne 7, 3) := by decide +kernel
theorem dX12_span_16 : decode cX12_span 16 = .ok (.iconst 1, 1) := by decide +kernel
theorem dX12_span_17 : decode cX12_span 17 = .ok (.goto 4, 3) := by decide +kernel
theorem dX12_span_20 : decode cX12_span 20 = .ok (.iconst 0, 1) := by decide +kernel
theorem dX12_span_21 : decode cX12_span 21 = .ok (.iconst 1, 1) := by decide +kernel
theorem dX12_span_22 : decode cX12_span 22 = .ok (.invokevirtual 253, 3) := by decide +kernel
theorem dX12_span_25 : decode cX12_span 25 = .ok (.ifCond .eq 5, 3) := by decide +kernel
theorem dX12_span_28 : decode cX12_span 28 = .ok (.iconst 0, 1) := by decide +kernel
theorem dX12_span_29 : decode cX12_span 29 = .ok (.ireturn, 1) := by decide +kernel
theorem dX12_span_30 : decode cX12_span 30 = .ok (.aload_n 0, 1) := by decide +kernel
theorem dX12_span_31 : decode cX12_span 31 = .ok (.invokevirtual 350, 3) := by decide +kernel
theorem dX12_span_34 : decode cX12_span 34 = .ok (.iconst (-1), 1) := by decide +kernel
theorem dX12_span_35 : decode cX12_span 35 = .ok (.istore_n 3, 1) := by decide +kernel
theorem dX12_span_36 : decode cX12_span 36 = .ok (.iconst 1, 1) := by decide +kernel
theorem dX12_span_37 : decode cX12_span 37 = .ok (.istore 4, 2) := by decide +kernel
theorem dX12_span_39 : decode cX12_span 39 = .ok (.iload 4, 2) := by decide +kernel
theorem dX12_span_41 : decode cX12_span 41 = .ok (.bipush 6, 2) := by decide +kernel
theorem dX12_span_43 : decode cX12_span 43 = .ok (.if_icmp .gt 88, 3) := by decide +kernel
theorem dX12_span_46 : decode cX12_span 46 = .ok (.aload_n 0, 1) := by decide +kernel
theorem dX12_span_47 : decode cX12_span 47 = .ok (.getfield 13, 3) := by decide +kernel
theorem dX12_span_50 : decode cX12_span 50 = .ok (.bipush 11, 2) := by decide +kernel
theorem dX12_span_52 : decode cX12_span 52 = .ok (.iload 4, 2) := by decide +kernel
theorem dX12_span_54 : decode cX12_span 54 = .ok (.iastore, 1) := by decide +kernel
theorem dX12_span_55 : decode cX12_span 55 = .ok (.iconst 0, 1) := by decide +kernel
theorem dX12_span_56 : decode cX12_span 56 = .ok (.istore 5, 2) := by decide +kernel
theorem dX12_span_58 : decode cX12_span 58 = .ok (.iload 5, 2) := by decide +kernel
theorem dX12_span_60 : decode cX12_span 60 = .ok (.iload_n 1, 1) := by decide +kernel
theorem dX12_span_61 : decode cX12_span 61 = .ok (.if_icmp .ge 14, 3) := by decide +kernel
theorem dX12_span_64 : decode cX12_span 64 = .ok (.aload_n 0, 1) := by decide +kernel
theorem dX12_span_65 : decode cX12_span 65 = .ok (.iconst 0, 1) := by decide +kernel
theorem dX12_span_66 : decode cX12_span 66 = .ok (.invokevirtual 325, 3) := by decide +kernel
theorem dX12_span_69 : decode cX12_span 69 = .ok (.iinc 5 1, 3) := by decide +kernel
theorem dX12_span_72 : decode cX12_span 72 = .ok (.goto (-14), 3) := by decide +kernel
theorem dX12_span_75 : decode cX12_span 75 = .ok (.aload_n 0, 1) := by decide +kernel
theorem dX12_span_76 : decode cX12_span 76 = .ok (.getfield 13, 3) := by decide +kernel
theorem dX12_span_79 : decode cX12_span 79 = .ok (.bipush 9, 2) := by decide +kernel
theorem dX12_span_81 : decode cX12_span 81 = .ok (.iaload, 1) := by decide +kernel
theorem dX12_span_82 : decode cX12_span 82 = .ok (.aload_n 0, 1) := by decide +kernel
theorem dX12_span_83 : decode cX12_span 83 = .ok (.getfield 23, 3) := by decide +kernel
theorem dX12_span_86 : decode cX12_span 86 = .ok (.bipush 9, 2) := by decide +kernel
theorem dX12_span_88 : decode cX12_span 88 = .ok (.iaload, 1) := by decide +kernel
theorem dX12_span_89 : decode cX12_span 89 = .ok (.isub, 1) := by decide +kernel
theorem dX12_span_90 : decode cX12_span 90 = .ok (.istore 5, 2) := by decide +kernel
theorem dX12_span_92 : decode cX12_span 92 = .ok (.aload_n 0, 1) := by decide +kernel
theorem dX12_span_93 : decode cX12_span 93 = .ok (.invokevirtual 353, 3) := by decide +kernel
theorem dX12_span_96 : decode cX12_span 96 = .ok (.iload_n 3, 1) := by decide +kernel
theorem dX12_span_97 : decode cX12_span 97 = .ok (.ifCond .ge 8, 3) := by decide +kernel
theorem dX12_span_100 : decode cX12_span 100 = .ok (.iload 5, 2) := by decide +kernel
theorem dX12_span_102 : decode cX12_span 102 = .ok (.goto 22, 3) := by decide +kernel
theorem dX12_span_105 : decode cX12_span 105 = .ok (.iload_n 2, 1) := by decide +kernel
theorem dX12_span_106 : decode cX12_span 106 = .ok (.ifCond .eq 12, 3) := by decide +kernel
theorem dX12_span_109 : decode cX12_span 109 = .ok (.iload_n 3, 1) := by decide +kernel
theorem dX12_span_110 : decode cX12_span 110 = .ok (.iload 5, 2) := by decide +kernel
theorem dX12_span_112 : decode cX12_span 112 = .ok (.invokestatic 280, 3) := by decide +kernel
theorem dX12_span_115 : decode cX12_span 115 = .ok (.goto 9, 3) := by decide +kernel
theorem dX12_span_118 : decode cX12_span 118 = .ok (.iload_n 3, 1) := by decide +kernel
theorem dX12_span_119 : decode cX12_span 119 = .ok (.iload 5, 2) := by decide +kernel
theorem dX12_span_121 : decode cX12_span 121 = .ok (.invokestatic 275, 3) := by decide +kernel
theorem dX12_span_124 : decode cX12_span 124 = .ok (.istore_n 3, 1) := by decide +kernel
theorem dX12_span_125 : decode cX12_span 125 = .ok (.iinc 4 1, 3) := by decide +kernel
theorem dX12_span_128 : decode cX12_span 128 = .ok (.goto (-89), 3) := by decide +kernel
theorem dX12_span_131 : decode cX12_span 131 = .ok (.iload_n 3, 1) := by decide +kernel
theorem dX12_span_132 : decode cX12_span 132 = .ok (.ireturn, 1) := by decide +kernel
theorem dX12_ofLog_0 : decode cX12_ofLog 0 = .ok (.aload_n 0, 1) := by decide +kernel
theorem dX12_ofLog_1 : decode cX12_ofLog 1 = .ok (.getfield 13, 3) := by decide +kernel
theorem dX12_ofLog_4 : decode cX12_ofLog 4 = .ok (.sipush 180, 3) := by decide +kernel
theorem dX12_ofLog_7 : decode cX12_ofLog 7 = .ok (.iconst 4, 1) := by decide +kernel
theorem dX12_ofLog_8 : decode cX12_ofLog 8 = .ok (.iload_n 1, 1) := by decide +kernel
theorem dX12_ofLog_9 : decode cX12_ofLog 9 = .ok (.imul, 1) := by decide +kernel
theorem dX12_ofLog_10 : decode cX12_ofLog 10 = .ok (.iadd, 1) := by decide +kernel
theorem dX12_ofLog_11 : decode cX12_ofLog 11 = .ok (.iload_n 2, 1) := by decide +kernel
theorem dX12_ofLog_12 : decode cX12_ofLog 12 = .ok (.iadd, 1) := by decide +kernel
theorem dX12_ofLog_13 : decode cX12_ofLog 13 = .ok (.iaload, 1) := by decide +kernel
theorem dX12_ofLog_14 : decode cX12_ofLog 14 = .ok (.ireturn, 1) := by decide +kernel
theorem dX12_led_0 : decode cX12_led 0 = .ok (.aload_n 0, 1) := by decide +kernel
theorem dX12_led_1 : decode cX12_led 1 = .ok (.iconst 0, 1) := by decide +kernel
theorem dX12_led_2 : decode cX12_led 2 = .ok (.putfield 3, 3) := by decide +kernel
theorem dX12_led_5 : decode cX12_led 5 = .ok (.aload_n 0, 1) := by decide +kernel
theorem dX12_led_6 : decode cX12_led 6 = .ok (.aload_n 0, 1) := by decide +kernel
theorem dX12_led_7 : decode cX12_led 7 = .ok (.iload_n 1, 1) := by decide +kernel
theorem dX12_led_8 : decode cX12_led 8 = .ok (.invokevirtual 335, 3) := by decide +kernel
theorem dX12_led_11 : decode cX12_led 11 = .ok (.iconst 1, 1) := by decide +kernel
theorem dX12_led_12 : decode cX12_led 12 = .ok (.invokevirtual 253, 3) := by decide +kernel
theorem dX12_led_15 : decode cX12_led 15 = .ok (.ifCond .eq 5, 3) := by decide +kernel
theorem dX12_led_18 : decode cX12_led 18 = .ok (.iconst 0, 1) := by decide +kernel
theorem dX12_led_19 : decode cX12_led 19 = .ok (.ireturn, 1) := by decide +kernel
theorem dX12_led_20 : decode cX12_led 20 = .ok (.iconst 0, 1) := by decide +kernel
theorem dX12_led_21 : decode cX12_led 21 = .ok (.istore_n 3, 1) := by decide +kernel
theorem dX12_led_22 : decode cX12_led 22 = .ok (.iconst 0, 1) := by decide +kernel
theorem dX12_led_23 : decode cX12_led 23 = .ok (.istore 4, 2) := by decide +kernel
theorem dX12_led_25 : decode cX12_led 25 = .ok (.iconst 0, 1) := by decide +kernel
theorem dX12_led_26 : decode cX12_led 26 = .ok (.istore 5, 2) := by decide +kernel
theorem dX12_led_28 : decode cX12_led 28 = .ok (.iload 5, 2) := by decide +kernel
theorem dX12_led_30 : decode cX12_led 30 = .ok (.aload_n 0, 1) := by decide +kernel
theorem dX12_led_31 : decode cX12_led 31 = .ok (.getfield 13, 3) := by decide +kernel
theorem dX12_led_34 : decode cX12_led 34 = .ok (.bipush 10, 2) := by decide +kernel
theorem dX12_led_36 : decode cX12_led 36 = .ok (.iaload, 1) := by decide +kernel
theorem dX12_led_37 : decode cX12_led 37 = .ok (.if_icmp .ge 40, 3) := by decide +kernel
theorem dX12_led_40 : decode cX12_led 40 = .ok (.aload_n 0, 1) := by decide +kernel
theorem dX12_led_41 : decode cX12_led 41 = .ok (.iload 5, 2) := by decide +kernel
theorem dX12_led_43 : decode cX12_led 43 = .ok (.iconst 1, 1) := by decide +kernel
theorem dX12_led_44 : decode cX12_led 44 = .ok (.invokevirtual 414, 3) := by decide +kernel
theorem dX12_led_47 : decode cX12_led 47 = .ok (.iload_n 1, 1) := by decide +kernel
theorem dX12_led_48 : decode cX12_led 48 = .ok (.if_icmp .eq 6, 3) := by decide +kernel
theorem dX12_led_51 : decode cX12_led 51 = .ok (.goto 20, 3) := by decide +kernel
theorem dX12_led_54 : decode cX12_led 54 = .ok (.iinc 3 1, 3) := by decide +kernel
theorem dX12_led_57 : decode cX12_led 57 = .ok (.iload 4, 2) := by decide +kernel
theorem dX12_led_59 : decode cX12_led 59 = .ok (.aload_n 0, 1) := by decide +kernel
theorem dX12_led_60 : decode cX12_led 60 = .ok (.iload 5, 2) := by decide +kernel
theorem dX12_led_62 : decode cX12_led 62 = .ok (.iconst 2, 1) := by decide +kernel
theorem dX12_led_63 : decode cX12_led 63 = .ok (.invokevirtual 414, 3) := by decide +kernel
theorem dX12_led_66 : decode cX12_led 66 = .ok (.invokestatic 280, 3) := by decide +kernel
theorem dX12_led_69 : decode cX12_led 69 = .ok (.istore 4, 2) := by decide +kernel
theorem dX12_led_71 : decode cX12_led 71 = .ok (.iinc 5 1, 3) := by decide +kernel
theorem dX12_led_74 : decode cX12_led 74 = .ok (.goto (-46), 3) := by decide +kernel
theorem dX12_led_77 : decode cX12_led 77 = .ok (.iload_n 2, 1) := by decide +kernel
theorem dX12_led_78 : decode cX12_led 78 = .ok (.ifCond .eq 8, 3) := by decide +kernel
theorem dX12_led_81 : decode cX12_led 81 = .ok (.iload 4, 2) := by decide +kernel
theorem dX12_led_83 : decode cX12_led 83 = .ok (.goto 4, 3) := by decide +kernel
theorem dX12_led_86 : decode cX12_led 86 = .ok (.iload_n 3, 1) := by decide +kernel
theorem dX12_led_87 : decode cX12_led 87 = .ok (.ireturn, 1) := by decide +kernel
theorem dX12_log_0 : decode cX12_log 0 = .ok (.aload_n 0, 1) := by decide +kernel
theorem dX12_log_1 : decode cX12_log 1 = .ok (.iconst 0, 1) := by decide +kernel
theorem dX12_log_2 : decode cX12_log 2 = .ok (.putfield 3, 3) := by decide +kernel
theorem dX12_log_5 : decode cX12_log 5 = .ok (.aload_n 0, 1) := by decide +kernel
theorem dX12_log_6 : decode cX12_log 6 = .ok (.iload_n 2, 1) := by decide +kernel
theorem dX12_log_7 : decode cX12_log 7 = .ok (.iconst 0, 1) := by decide +kernel
theorem dX12_log_8 : decode cX12_log 8 = .ok (.iconst 3, 1) := by decide +kernel
theorem dX12_log_9 : decode cX12_log 9 = .ok (.invokestatic 78, 3) := by decide +kernel
theorem dX12_log_12 : decode cX12_log 12 = .ok (.ifCond .ne 7, 3) := by decide +kernel
theorem dX12_log_15 : decode cX12_log 15 = .ok (.iconst 1, 1) := by decide +kernel
theorem dX12_log_16 : decode cX12_log 16 = .ok (.goto 4, 3) := by decide +kernel
theorem dX12_log_19 : decode cX12_log 19 = .ok (.iconst 0, 1) := by decide +kernel
theorem dX12_log_20 : decode cX12_log 20 = .ok (.iconst 1, 1) := by decide +kernel
theorem dX12_log_21 : decode cX12_log 21 = .ok (.invokevirtual 253, 3) := by decide +kernel
theorem dX12_log_24 : decode cX12_log 24 = .ok (.ifCond .eq 5, 3) := by decide +kernel
theorem dX12_log_27 : decode cX12_log 27 = .ok (.iconst 0, 1) := by decide +kernel
theorem dX12_log_28 : decode cX12_log 28 = .ok (.ireturn, 1) := by decide +kernel
theorem dX12_log_29 : decode cX12_log 29 = .ok (.iload_n 1, 1) := by decide +kernel
theorem dX12_log_30 : decode cX12_log 30 = .ok (.iconst 0, 1) := by decide +kernel
theorem dX12_log_31 : decode cX12_log 31 = .ok (.aload_n 0, 1) := by decide +kernel
theorem dX12_log_32 : decode cX12_log 32 = .ok (.getfield 13, 3) := by decide +kernel
theorem dX12_log_35 : decode cX12_log 35 = .ok (.bipush 10, 2) := by decide +kernel
theorem dX12_log_37 : decode cX12_log 37 = .ok (.iaload, 1) := by decide +kernel
theorem dX12_log_38 : decode cX12_log 38 = .ok (.iconst 1, 1) := by decide +kernel
theorem dX12_log_39 : decode cX12_log 39 = .ok (.isub, 1) := by decide +kernel
theorem dX12_log_40 : decode cX12_log 40 = .ok (.invokestatic 78, 3) := by decide +kernel
theorem dX12_log_43 : decode cX12_log 43 = .ok (.ifCond .eq 12, 3) := by decide +kernel
theorem dX12_log_46 : decode cX12_log 46 = .ok (.aload_n 0, 1) := by decide +kernel
theorem dX12_log_47 : decode cX12_log 47 = .ok (.iload_n 1, 1) := by decide +kernel
theorem dX12_log_48 : decode cX12_log 48 = .ok (.iload_n 2, 1) := by decide +kernel
theorem dX12_log_49 : decode cX12_log 49 = .ok (.invokevirtual 414, 3) := by decide +kernel
theorem dX12_log_52 : decode cX12_log 52 = .ok (.goto 4, 3) := by decide +kernel
theorem dX12_log_55 : decode cX12_log 55 = .ok (.iconst (-1), 1) := by decide +kernel
theorem dX12_log_56 : decode cX12_log 56 = .ok (.ireturn, 1) := by decide +kernel
theorem dX12_seed_0 : decode cX12_seed 0 = .ok (.aload_n 0, 1) := by decide +kernel
theorem dX12_seed_1 : decode cX12_seed 1 = .ok (.iconst 0, 1) := by decide +kernel
theorem dX12_seed_2 : decode cX12_seed 2 = .ok (.putfield 3, 3) := by decide +kernel
theorem dX12_seed_5 : decode cX12_seed 5 = .ok (.aload_n 0, 1) := by decide +kernel
theorem dX12_seed_6 : decode cX12_seed 6 = .ok (.getfield 13, 3) := by decide +kernel
theorem dX12_seed_9 : decode cX12_seed 9 = .ok (.bipush 11, 2) := by decide +kernel
theorem dX12_seed_11 : decode cX12_seed 11 = .ok (.iaload, 1) := by decide +kernel
theorem dX12_seed_12 : decode cX12_seed 12 = .ok (.istore_n 2, 1) := by decide +kernel
theorem dX12_seed_13 : decode cX12_seed 13 = .ok (.aload_n 0, 1) := by decide +kernel
theorem dX12_seed_14 : decode cX12_seed 14 = .ok (.getfield 13, 3) := by decide +kernel
theorem dX12_seed_17 : decode cX12_seed 17 = .ok (.bipush 11, 2) := by decide +kernel
theorem dX12_seed_19 : decode cX12_seed 19 = .ok (.iload_n 1, 1) := by decide +kernel
theorem dX12_seed_20 : decode cX12_seed 20 = .ok (.iastore, 1) := by decide +kernel
theorem dX12_seed_21 : decode cX12_seed 21 = .ok (.iload_n 2, 1) := by decide +kernel
theorem dX12_seed_22 : decode cX12_seed 22 = .ok (.ireturn, 1) := by decide +kernel
theorem dX12_allForged_0 : decode cX12_allForged 0 = .ok (.iconst 0, 1) := by decide +kernel
theorem dX12_allForged_1 : decode cX12_allForged 1 = .ok (.istore_n 1, 1) := by decide +kernel
theorem dX12_allForged_2 : decode cX12_allForged 2 = .ok (.iconst 0, 1) := by decide +kernel
theorem dX12_allForged_3 : decode cX12_allForged 3 = .ok (.istore_n 2, 1) := by decide +kernel
theorem dX12_allForged_4 : decode cX12_allForged 4 = .ok (.iload_n 2, 1) := by decide +kernel
theorem dX12_allForged_5 : decode cX12_allForged 5 = .ok (.aload_n 0, 1) := by decide +kernel
theorem dX12_allForged_6 : decode cX12_allForged 6 = .ok (.invokevirtual 74, 3) := by decide +kernel
theorem dX12_allForged_9 : decode cX12_allForged 9 = .ok (.if_icmp .ge 18, 3) := by decide +kernel
theorem dX12_allForged_12 : decode cX12_allForged 12 = .ok (.iload_n 1, 1) := by decide +kernel
theorem dX12_allForged_13 : decode cX12_allForged 13 = .ok (.aload_n 0, 1) := by decide +kernel
theorem dX12_allForged_14 : decode cX12_allForged 14 = .ok (.iload_n 2, 1) := by decide +kernel
theorem dX12_allForged_15 : decode cX12_allForged 15 = .ok (.iconst 2, 1) := by decide +kernel
theorem dX12_allForged_16 : decode cX12_allForged 16 = .ok (.invokevirtual 68, 3) := by decide +kernel
theorem dX12_allForged_19 : decode cX12_allForged 19 = .ok (.iadd, 1) := by decide +kernel
theorem dX12_allForged_20 : decode cX12_allForged 20 = .ok (.istore_n 1, 1) := by decide +kernel
theorem dX12_allForged_21 : decode cX12_allForged 21 = .ok (.iinc 2 1, 3) := by decide +kernel
theorem dX12_allForged_24 : decode cX12_allForged 24 = .ok (.goto (-20), 3) := by decide +kernel
theorem dX12_allForged_27 : decode cX12_allForged 27 = .ok (.iload_n 1, 1) := by decide +kernel
theorem dX12_allForged_28 : decode cX12_allForged 28 = .ok (.ireturn, 1) := by decide +kernel
theorem dX12_count_0 : decode cX12_count 0 = .ok (.aload_n 0, 1) := by decide +kernel
theorem dX12_count_1 : decode cX12_count 1 = .ok (.iconst 0, 1) := by decide +kernel
theorem dX12_count_2 : decode cX12_count 2 = .ok (.putfield 3, 3) := by decide +kernel
theorem dX12_count_5 : decode cX12_count 5 = .ok (.iload_n 1, 1) := by decide +kernel
theorem dX12_count_6 : decode cX12_count 6 = .ok (.tableswitch 153 0 14 #[74, 79, 84, 91, 153, 153, 153, 153, 153, 114, 119, 124, 132, 140, 148], 74) := by decide +kernel
theorem dX12_count_80 : decode cX12_count 80 = .ok (.aload_n 0, 1) := by decide +kernel
theorem dX12_count_81 : decode cX12_count 81 = .ok (.invokevirtual 74, 3) := by decide +kernel
theorem dX12_count_84 : decode cX12_count 84 = .ok (.ireturn, 1) := by decide +kernel
theorem dX12_count_85 : decode cX12_count 85 = .ok (.aload_n 0, 1) := by decide +kernel
theorem dX12_count_86 : decode cX12_count 86 = .ok (.invokevirtual 393, 3) := by decide +kernel
theorem dX12_count_89 : decode cX12_count 89 = .ok (.ireturn, 1) := by decide +kernel
theorem dX12_count_90 : decode cX12_count 90 = .ok (.aload_n 0, 1) := by decide +kernel
theorem dX12_count_91 : decode cX12_count 91 = .ok (.getfield 13, 3) := by decide +kernel
theorem dX12_count_94 : decode cX12_count 94 = .ok (.iconst 1, 1) := by decide +kernel
theorem dX12_count_95 : decode cX12_count 95 = .ok (.iaload, 1) := by decide +kernel
theorem dX12_count_96 : decode cX12_count 96 = .ok (.ireturn, 1) := by decide +kernel
theorem dX12_count_97 : decode cX12_count 97 = .ok (.aload_n 0, 1) := by decide +kernel
theorem dX12_count_98 : decode cX12_count 98 = .ok (.getfield 13, 3) := by decide +kernel
theorem dX12_count_101 : decode cX12_count 101 = .ok (.iconst 2, 1) := by decide +kernel
theorem dX12_count_102 : decode cX12_count 102 = .ok (.iaload, 1) := by decide +kernel
theorem dX12_count_103 : decode cX12_count 103 = .ok (.iconst 1, 1) := by decide +kernel
theorem dX12_count_104 : decode cX12_count 104 = .ok (.if_icmp .ne 14, 3) := by decide +kernel
theorem dX12_count_107 : decode cX12_count 107 = .ok (.aload_n 0, 1) := by decide +kernel
theorem dX12_count_108 : decode cX12_count 108 = .ok (.getfield 13, 3) := by decide +kernel
theorem dX12_count_111 : decode cX12_count 111 = .ok (.sipush 420, 3) := by decide +kernel
theorem dX12_count_114 : decode cX12_count 114 = .ok (.iaload, 1) := by decide +kernel
theorem dX12_count_115 : decode cX12_count 115 = .ok (.goto 4, 3) := by decide +kernel
theorem dX12_count_118 : decode cX12_count 118 = .ok (.iconst (-1), 1) := by decide +kernel
theorem dX12_count_119 : decode cX12_count 119 = .ok (.ireturn, 1) := by decide +kernel
theorem dX12_count_120 : decode cX12_count 120 = .ok (.aload_n 0, 1) := by decide +kernel
theorem dX12_count_121 : decode cX12_count 121 = .ok (.invokevirtual 312, 3) := by decide +kernel
theorem dX12_count_124 : decode cX12_count 124 = .ok (.ireturn, 1) := by decide +kernel
theorem dX12_count_125 : decode cX12_count 125 = .ok (.aload_n 0, 1) := by decide +kernel
theorem dX12_count_126 : decode cX12_count 126 = .ok (.invokevirtual 417, 3) := by decide +kernel
theorem dX12_count_129 : decode cX12_count 129 = .ok (.ireturn, 1) := by decide +kernel
theorem dX12_count_130 : decode cX12_count 130 = .ok (.aload_n 0, 1) := by decide +kernel
theorem dX12_count_131 : decode cX12_count 131 = .ok (.getfield 13, 3) := by decide +kernel
theorem dX12_count_134 : decode cX12_count 134 = .ok (.bipush 8, 2) := by decide +kernel
theorem dX12_count_136 : decode cX12_count 136 = .ok (.iaload, 1) := by decide +kernel
theorem dX12_count_137 : decode cX12_count 137 = .ok (.ireturn, 1) := by decide +kernel
theorem dX12_count_138 : decode cX12_count 138 = .ok (.aload_n 0, 1) := by decide +kernel
theorem dX12_count_139 : decode cX12_count 139 = .ok (.getfield 13, 3) := by decide +kernel
theorem dX12_count_142 : decode cX12_count 142 = .ok (.bipush 9, 2) := by decide +kernel
theorem dX12_count_144 : decode cX12_count 144 = .ok (.iaload, 1) := by decide +kernel
theorem dX12_count_145 : decode cX12_count 145 = .ok (.ireturn, 1) := by decide +kernel
theorem dX12_count_146 : decode cX12_count 146 = .ok (.aload_n 0, 1) := by decide +kernel
theorem dX12_count_147 : decode cX12_count 147 = .ok (.getfield 13, 3) := by decide +kernel
theorem dX12_count_150 : decode cX12_count 150 = .ok (.bipush 10, 2) := by decide +kernel
theorem dX12_count_152 : decode cX12_count 152 = .ok (.iaload, 1) := by decide +kernel
theorem dX12_count_153 : decode cX12_count 153 = .ok (.ireturn, 1) := by decide +kernel
theorem dX12_count_154 : decode cX12_count 154 = .ok (.aload_n 0, 1) := by decide +kernel
theorem dX12_count_155 : decode cX12_count 155 = .ok (.getfield 61, 3) := by decide +kernel
theorem dX12_count_158 : decode cX12_count 158 = .ok (.ireturn, 1) := by decide +kernel
theorem dX12_count_159 : decode cX12_count 159 = .ok (.iload_n 1, 1) := by decide +kernel
theorem dX12_count_160 : decode cX12_count 160 = .ok (.iconst 4, 1) := by decide +kernel
theorem dX12_count_161 : decode cX12_count 161 = .ok (.bipush 8, 2) := by decide +kernel
theorem dX12_count_163 : decode cX12_count 163 = .ok (.invokestatic 78, 3) := by decide +kernel
theorem dX12_count_166 : decode cX12_count 166 = .ok (.ifCond .eq 14, 3) := by decide +kernel
theorem dX12_count_169 : decode cX12_count 169 = .ok (.aload_n 0, 1) := by decide +kernel
theorem dX12_count_170 : decode cX12_count 170 = .ok (.getfield 13, 3) := by decide +kernel
theorem dX12_count_173 : decode cX12_count 173 = .ok (.iload_n 1, 1) := by decide +kernel
theorem dX12_count_174 : decode cX12_count 174 = .ok (.iconst 1, 1) := by decide +kernel
theorem dX12_count_175 : decode cX12_count 175 = .ok (.isub, 1) := by decide +kernel
theorem dX12_count_176 : decode cX12_count 176 = .ok (.iaload, 1) := by decide +kernel
theorem dX12_count_177 : decode cX12_count 177 = .ok (.goto 4, 3) := by decide +kernel
theorem dX12_count_180 : decode cX12_count 180 = .ok (.iconst (-1), 1) := by decide +kernel
theorem dX12_count_181 : decode cX12_count 181 = .ok (.ireturn, 1) := by decide +kernel
theorem dJ6_bitCount_0f7a4_0 : decode cJ6_bitCount_0f7a4 0 = .ok (.iload_n 0, 1) := by decide +kernel
theorem dJ6_bitCount_0f7a4_1 : decode cJ6_bitCount_0f7a4 1 = .ok (.iload_n 0, 1) := by decide +kernel
theorem dJ6_bitCount_0f7a4_2 : decode cJ6_bitCount_0f7a4 2 = .ok (.iconst 1, 1) := by decide +kernel
theorem dJ6_bitCount_0f7a4_3 : decode cJ6_bitCount_0f7a4 3 = .ok (.iushr, 1) := by decide +kernel
theorem dJ6_bitCount_0f7a4_4 : decode cJ6_bitCount_0f7a4 4 = .ok (.ldc_w 265, 3) := by decide +kernel
theorem dJ6_bitCount_0f7a4_7 : decode cJ6_bitCount_0f7a4 7 = .ok (.iand, 1) := by decide +kernel
theorem dJ6_bitCount_0f7a4_8 : decode cJ6_bitCount_0f7a4 8 = .ok (.isub, 1) := by decide +kernel
theorem dJ6_bitCount_0f7a4_9 : decode cJ6_bitCount_0f7a4 9 = .ok (.istore_n 0, 1) := by decide +kernel
theorem dJ6_bitCount_0f7a4_10 : decode cJ6_bitCount_0f7a4 10 = .ok (.iload_n 0, 1) := by decide +kernel
theorem dJ6_bitCount_0f7a4_11 : decode cJ6_bitCount_0f7a4 11 = .ok (.ldc_w 266, 3) := by decide +kernel
theorem dJ6_bitCount_0f7a4_14 : decode cJ6_bitCount_0f7a4 14 = .ok (.iand, 1) := by decide +kernel
theorem dJ6_bitCount_0f7a4_15 : decode cJ6_bitCount_0f7a4 15 = .ok (.iload_n 0, 1) := by decide +kernel
theorem dJ6_bitCount_0f7a4_16 : decode cJ6_bitCount_0f7a4 16 = .ok (.iconst 2, 1) := by decide +kernel
theorem dJ6_bitCount_0f7a4_17 : decode cJ6_bitCount_0f7a4 17 = .ok (.iushr, 1) := by decide +kernel
theorem dJ6_bitCount_0f7a4_18 : decode cJ6_bitCount_0f7a4 18 = .ok (.ldc_w 266, 3) := by decide +kernel
theorem dJ6_bitCount_0f7a4_21 : decode cJ6_bitCount_0f7a4 21 = .ok (.iand, 1) := by decide +kernel
theorem dJ6_bitCount_0f7a4_22 : decode cJ6_bitCount_0f7a4 22 = .ok (.iadd, 1) := by decide +kernel
theorem dJ6_bitCount_0f7a4_23 : decode cJ6_bitCount_0f7a4 23 = .ok (.istore_n 0, 1) := by decide +kernel
theorem dJ6_bitCount_0f7a4_24 : decode cJ6_bitCount_0f7a4 24 = .ok (.iload_n 0, 1) := by decide +kernel
theorem dJ6_bitCount_0f7a4_25 : decode cJ6_bitCount_0f7a4 25 = .ok (.iload_n 0, 1) := by decide +kernel
theorem dJ6_bitCount_0f7a4_26 : decode cJ6_bitCount_0f7a4 26 = .ok (.iconst 4, 1) := by decide +kernel
theorem dJ6_bitCount_0f7a4_27 : decode cJ6_bitCount_0f7a4 27 = .ok (.iushr, 1) := by decide +kernel
theorem dJ6_bitCount_0f7a4_28 : decode cJ6_bitCount_0f7a4 28 = .ok (.iadd, 1) := by decide +kernel
theorem dJ6_bitCount_0f7a4_29 : decode cJ6_bitCount_0f7a4 29 = .ok (.ldc_w 267, 3) := by decide +kernel
theorem dJ6_bitCount_0f7a4_32 : decode cJ6_bitCount_0f7a4 32 = .ok (.iand, 1) := by decide +kernel
theorem dJ6_bitCount_0f7a4_33 : decode cJ6_bitCount_0f7a4 33 = .ok (.istore_n 0, 1) := by decide +kernel
theorem dJ6_bitCount_0f7a4_34 : decode cJ6_bitCount_0f7a4 34 = .ok (.iload_n 0, 1) := by decide +kernel
theorem dJ6_bitCount_0f7a4_35 : decode cJ6_bitCount_0f7a4 35 = .ok (.iload_n 0, 1) := by decide +kernel
theorem dJ6_bitCount_0f7a4_36 : decode cJ6_bitCount_0f7a4 36 = .ok (.bipush 8, 2) := by decide +kernel
theorem dJ6_bitCount_0f7a4_38 : decode cJ6_bitCount_0f7a4 38 = .ok (.iushr, 1) := by decide +kernel
theorem dJ6_bitCount_0f7a4_39 : decode cJ6_bitCount_0f7a4 39 = .ok (.iadd, 1) := by decide +kernel
theorem dJ6_bitCount_0f7a4_40 : decode cJ6_bitCount_0f7a4 40 = .ok (.istore_n 0, 1) := by decide +kernel
theorem dJ6_bitCount_0f7a4_41 : decode cJ6_bitCount_0f7a4 41 = .ok (.iload_n 0, 1) := by decide +kernel
theorem dJ6_bitCount_0f7a4_42 : decode cJ6_bitCount_0f7a4 42 = .ok (.iload_n 0, 1) := by decide +kernel
theorem dJ6_bitCount_0f7a4_43 : decode cJ6_bitCount_0f7a4 43 = .ok (.bipush 16, 2) := by decide +kernel
theorem dJ6_bitCount_0f7a4_45 : decode cJ6_bitCount_0f7a4 45 = .ok (.iushr, 1) := by decide +kernel
theorem dJ6_bitCount_0f7a4_46 : decode cJ6_bitCount_0f7a4 46 = .ok (.iadd, 1) := by decide +kernel
theorem dJ6_bitCount_0f7a4_47 : decode cJ6_bitCount_0f7a4 47 = .ok (.istore_n 0, 1) := by decide +kernel
theorem dJ6_bitCount_0f7a4_48 : decode cJ6_bitCount_0f7a4 48 = .ok (.iload_n 0, 1) := by decide +kernel
theorem dJ6_bitCount_0f7a4_49 : decode cJ6_bitCount_0f7a4 49 = .ok (.bipush 63, 2) := by decide +kernel
theorem dJ6_bitCount_0f7a4_51 : decode cJ6_bitCount_0f7a4 51 = .ok (.iand, 1) := by decide +kernel
theorem dJ6_bitCount_0f7a4_52 : decode cJ6_bitCount_0f7a4 52 = .ok (.ireturn, 1) := by decide +kernel
theorem dJ9_abs_0f7a4_0 : decode cJ9_abs_0f7a4 0 = .ok (.iload_n 0, 1) := by decide +kernel
theorem dJ9_abs_0f7a4_1 : decode cJ9_abs_0f7a4 1 = .ok (.ifCond .ge 8, 3) := by decide +kernel
theorem dJ9_abs_0f7a4_4 : decode cJ9_abs_0f7a4 4 = .ok (.iload_n 0, 1) := by decide +kernel
theorem dJ9_abs_0f7a4_5 : decode cJ9_abs_0f7a4 5 = .ok (.ineg, 1) := by decide +kernel
theorem dJ9_abs_0f7a4_6 : decode cJ9_abs_0f7a4 6 = .ok (.goto 4, 3) := by decide +kernel
theorem dJ9_abs_0f7a4_9 : decode cJ9_abs_0f7a4 9 = .ok (.iload_n 0, 1) := by decide +kernel
theorem dJ9_abs_0f7a4_10 : decode cJ9_abs_0f7a4 10 = .ok (.ireturn, 1) := by decide +kernel
theorem dJ9_max_7cf53_0 : decode cJ9_max_7cf53 0 = .ok (.iload_n 0, 1) := by decide +kernel
theorem dJ9_max_7cf53_1 : decode cJ9_max_7cf53 1 = .ok (.iload_n 1, 1) := by decide +kernel
theorem dJ9_max_7cf53_2 : decode cJ9_max_7cf53 2 = .ok (.if_icmp .lt 7, 3) := by decide +kernel
theorem dJ9_max_7cf53_5 : decode cJ9_max_7cf53 5 = .ok (.iload_n 0, 1) := by decide +kernel
theorem dJ9_max_7cf53_6 : decode cJ9_max_7cf53 6 = .ok (.goto 4, 3) := by decide +kernel
theorem dJ9_max_7cf53_9 : decode cJ9_max_7cf53 9 = .ok (.iload_n 1, 1) := by decide +kernel
theorem dJ9_max_7cf53_10 : decode cJ9_max_7cf53 10 = .ok (.ireturn, 1) := by decide +kernel
theorem dJ9_min_7cf53_0 : decode cJ9_min_7cf53 0 = .ok (.iload_n 0, 1) := by decide +kernel
theorem dJ9_min_7cf53_1 : decode cJ9_min_7cf53 1 = .ok (.iload_n 1, 1) := by decide +kernel
theorem dJ9_min_7cf53_2 : decode cJ9_min_7cf53 2 = .ok (.if_icmp .gt 7, 3) := by decide +kernel
theorem dJ9_min_7cf53_5 : decode cJ9_min_7cf53 5 = .ok (.iload_n 0, 1) := by decide +kernel
theorem dJ9_min_7cf53_6 : decode cJ9_min_7cf53 6 = .ok (.goto 4, 3) := by decide +kernel
theorem dJ9_min_7cf53_9 : decode cJ9_min_7cf53 9 = .ok (.iload_n 1, 1) := by decide +kernel
theorem dJ9_min_7cf53_10 : decode cJ9_min_7cf53 10 = .ok (.ireturn, 1) := by decide +kernel
theorem dJ0_length_8abf5_0 : decode cJ0_length_8abf5 0 = .ok (.aload_n 0, 1) := by decide +kernel
theorem dJ0_length_8abf5_1 : decode cJ0_length_8abf5 1 = .ok (.getfield 9, 3) := by decide +kernel
theorem dJ0_length_8abf5_4 : decode cJ0_length_8abf5 4 = .ok (.arraylength, 1) := by decide +kernel
theorem dJ0_length_8abf5_5 : decode cJ0_length_8abf5 5 = .ok (.aload_n 0, 1) := by decide +kernel
theorem dJ0_length_8abf5_6 : decode cJ0_length_8abf5 6 = .ok (.invokevirtual 335, 3) := by decide +kernel
theorem dJ0_length_8abf5_9 : decode cJ0_length_8abf5 9 = .ok (.ishr, 1) := by decide +kernel
theorem dJ0_length_8abf5_10 : decode cJ0_length_8abf5 10 = .ok (.ireturn, 1) := by decide +kernel
theorem dJ0_charAt_5068e_0 : decode cJ0_charAt_5068e 0 = .ok (.aload_n 0, 1) := by decide +kernel
theorem dJ0_charAt_5068e_1 : decode cJ0_charAt_5068e 1 = .ok (.invokevirtual 492, 3) := by decide +kernel
theorem dJ0_charAt_5068e_4 : decode cJ0_charAt_5068e 4 = .ok (.ifCond .eq 12, 3) := by decide +kernel
theorem dJ0_charAt_5068e_7 : decode cJ0_charAt_5068e 7 = .ok (.aload_n 0, 1) := by decide +kernel
theorem dJ0_charAt_5068e_8 : decode cJ0_charAt_5068e 8 = .ok (.getfield 9, 3) := by decide +kernel
theorem dJ0_charAt_5068e_11 : decode cJ0_charAt_5068e 11 = .ok (.iload_n 1, 1) := by decide +kernel
theorem dJ0_charAt_5068e_12 : decode cJ0_charAt_5068e 12 = .ok (.invokestatic 495, 3) := by decide +kernel
theorem dJ0_charAt_5068e_15 : decode cJ0_charAt_5068e 15 = .ok (.ireturn, 1) := by decide +kernel
theorem dJ0_charAt_5068e_16 : decode cJ0_charAt_5068e 16 = .ok (.aload_n 0, 1) := by decide +kernel
theorem dJ0_charAt_5068e_17 : decode cJ0_charAt_5068e 17 = .ok (.getfield 9, 3) := by decide +kernel
theorem dJ0_charAt_5068e_20 : decode cJ0_charAt_5068e 20 = .ok (.iload_n 1, 1) := by decide +kernel
theorem dJ0_charAt_5068e_21 : decode cJ0_charAt_5068e 21 = .ok (.invokestatic 498, 3) := by decide +kernel
theorem dJ0_charAt_5068e_24 : decode cJ0_charAt_5068e 24 = .ok (.ireturn, 1) := by decide +kernel
theorem dJ0_coder_7d493_0 : decode cJ0_coder_7d493 0 = .ok (.getstatic 38, 3) := by decide +kernel
theorem dJ0_coder_7d493_3 : decode cJ0_coder_7d493 3 = .ok (.ifCond .eq 10, 3) := by decide +kernel
theorem dJ0_coder_7d493_6 : decode cJ0_coder_7d493 6 = .ok (.aload_n 0, 1) := by decide +kernel
theorem dJ0_coder_7d493_7 : decode cJ0_coder_7d493 7 = .ok (.getfield 15, 3) := by decide +kernel
theorem dJ0_coder_7d493_10 : decode cJ0_coder_7d493 10 = .ok (.goto 4, 3) := by decide +kernel
theorem dJ0_coder_7d493_13 : decode cJ0_coder_7d493 13 = .ok (.iconst 1, 1) := by decide +kernel
theorem dJ0_coder_7d493_14 : decode cJ0_coder_7d493 14 = .ok (.ireturn, 1) := by decide +kernel
theorem dJ0_isLatin1_aae02_0 : decode cJ0_isLatin1_aae02 0 = .ok (.getstatic 38, 3) := by decide +kernel
theorem dJ0_isLatin1_aae02_3 : decode cJ0_isLatin1_aae02 3 = .ok (.ifCond .eq 14, 3) := by decide +kernel
theorem dJ0_isLatin1_aae02_6 : decode cJ0_isLatin1_aae02 6 = .ok (.aload_n 0, 1) := by decide +kernel
theorem dJ0_isLatin1_aae02_7 : decode cJ0_isLatin1_aae02 7 = .ok (.getfield 15, 3) := by decide +kernel
theorem dJ0_isLatin1_aae02_10 : decode cJ0_isLatin1_aae02 10 = .ok (.ifCond .ne 7, 3) := by decide +kernel
theorem dJ0_isLatin1_aae02_13 : decode cJ0_isLatin1_aae02 13 = .ok (.iconst 1, 1) := by decide +kernel
theorem dJ0_isLatin1_aae02_14 : decode cJ0_isLatin1_aae02 14 = .ok (.goto 4, 3) := by decide +kernel
theorem dJ0_isLatin1_aae02_17 : decode cJ0_isLatin1_aae02 17 = .ok (.iconst 0, 1) := by decide +kernel
theorem dJ0_isLatin1_aae02_18 : decode cJ0_isLatin1_aae02 18 = .ok (.ireturn, 1) := by decide +kernel
theorem dJ0_checkIndex_df160_0 : decode cJ0_checkIndex_df160 0 = .ok (.iload_n 0, 1) := by decide +kernel
theorem dJ0_checkIndex_df160_1 : decode cJ0_checkIndex_df160 1 = .ok (.iload_n 1, 1) := by decide +kernel
theorem dJ0_checkIndex_df160_2 : decode cJ0_checkIndex_df160 2 = .ok (.getstatic 1053, 3) := by decide +kernel
theorem dJ0_checkIndex_df160_5 : decode cJ0_checkIndex_df160 5 = .ok (.invokestatic 1059, 3) := by decide +kernel
theorem dJ0_checkIndex_df160_8 : decode cJ0_checkIndex_df160 8 = .ok (.pop, 1) := by decide +kernel
theorem dJ0_checkIndex_df160_9 : decode cJ0_checkIndex_df160 9 = .ok (.return_, 1) := by decide +kernel
theorem dJ1_charAt_3b067_0 : decode cJ1_charAt_3b067 0 = .ok (.iload_n 1, 1) := by decide +kernel
theorem dJ1_charAt_3b067_1 : decode cJ1_charAt_3b067 1 = .ok (.aload_n 0, 1) := by decide +kernel
theorem dJ1_charAt_3b067_2 : decode cJ1_charAt_3b067 2 = .ok (.arraylength, 1) := by decide +kernel
theorem dJ1_charAt_3b067_3 : decode cJ1_charAt_3b067 3 = .ok (.invokestatic 9, 3) := by decide +kernel
theorem dJ1_charAt_3b067_6 : decode cJ1_charAt_3b067 6 = .ok (.aload_n 0, 1) := by decide +kernel
theorem dJ1_charAt_3b067_7 : decode cJ1_charAt_3b067 7 = .ok (.iload_n 1, 1) := by decide +kernel
theorem dJ1_charAt_3b067_8 : decode cJ1_charAt_3b067 8 = .ok (.baload, 1) := by decide +kernel
theorem dJ1_charAt_3b067_9 : decode cJ1_charAt_3b067 9 = .ok (.sipush 255, 3) := by decide +kernel
theorem dJ1_charAt_3b067_12 : decode cJ1_charAt_3b067 12 = .ok (.iand, 1) := by decide +kernel
theorem dJ1_charAt_3b067_13 : decode cJ1_charAt_3b067 13 = .ok (.i2c, 1) := by decide +kernel
theorem dJ1_charAt_3b067_14 : decode cJ1_charAt_3b067 14 = .ok (.ireturn, 1) := by decide +kernel
theorem dJ2_getChar_3b067_0 : decode cJ2_getChar_3b067 0 = .ok (.getstatic 44, 3) := by decide +kernel
theorem dJ2_getChar_3b067_3 : decode cJ2_getChar_3b067 3 = .ok (.ifCond .ne 25, 3) := by decide +kernel
theorem dJ2_getChar_3b067_6 : decode cJ2_getChar_3b067 6 = .ok (.iload_n 1, 1) := by decide +kernel
theorem dJ2_getChar_3b067_7 : decode cJ2_getChar_3b067 7 = .ok (.ifCond .lt 11, 3) := by decide +kernel
theorem dJ2_getChar_3b067_10 : decode cJ2_getChar_3b067 10 = .ok (.iload_n 1, 1) := by decide +kernel
theorem dJ2_getChar_3b067_11 : decode cJ2_getChar_3b067 11 = .ok (.aload_n 0, 1) := by decide +kernel
theorem dJ2_getChar_3b067_12 : decode cJ2_getChar_3b067 12 = .ok (.invokestatic 48, 3) := by decide +kernel
theorem dJ2_getChar_3b067_15 : decode cJ2_getChar_3b067 15 = .ok (.if_icmp .lt 13, 3) := by decide +kernel
theorem dJ2_getChar_3b067_18 : decode cJ2_getChar_3b067 18 = .ok (.new 52, 3) := by decide +kernel
theorem dJ2_getChar_3b067_21 : decode cJ2_getChar_3b067 21 = .ok (.dup, 1) := by decide +kernel
theorem dJ2_getChar_3b067_22 : decode cJ2_getChar_3b067 22 = .ok (.ldc 54, 2) := by decide +kernel
theorem dJ2_getChar_3b067_24 : decode cJ2_getChar_3b067 24 = .ok (.invokespecial 56, 3) := by decide +kernel
theorem dJ2_getChar_3b067_27 : decode cJ2_getChar_3b067 27 = .ok (.athrow, 1) := by decide +kernel
theorem dJ2_getChar_3b067_28 : decode cJ2_getChar_3b067 28 = .ok (.iload_n 1, 1) := by decide +kernel
theorem dJ2_getChar_3b067_29 : decode cJ2_getChar_3b067 29 = .ok (.iconst 1, 1) := by decide +kernel
theorem dJ2_getChar_3b067_30 : decode cJ2_getChar_3b067 30 = .ok (.ishl, 1) := by decide +kernel
theorem dJ2_getChar_3b067_31 : decode cJ2_getChar_3b067 31 = .ok (.istore_n 1, 1) := by decide +kernel
theorem dJ2_getChar_3b067_32 : decode cJ2_getChar_3b067 32 = .ok (.aload_n 0, 1) := by decide +kernel
theorem dJ2_getChar_3b067_33 : decode cJ2_getChar_3b067 33 = .ok (.iload_n 1, 1) := by decide +kernel
theorem dJ2_getChar_3b067_34 : decode cJ2_getChar_3b067 34 = .ok (.iinc 1 1, 3) := by decide +kernel
theorem dJ2_getChar_3b067_37 : decode cJ2_getChar_3b067 37 = .ok (.baload, 1) := by decide +kernel
theorem dJ2_getChar_3b067_38 : decode cJ2_getChar_3b067 38 = .ok (.sipush 255, 3) := by decide +kernel
theorem dJ2_getChar_3b067_41 : decode cJ2_getChar_3b067 41 = .ok (.iand, 1) := by decide +kernel
theorem dJ2_getChar_3b067_42 : decode cJ2_getChar_3b067 42 = .ok (.getstatic 59, 3) := by decide +kernel
theorem dJ2_getChar_3b067_45 : decode cJ2_getChar_3b067 45 = .ok (.ishl, 1) := by decide +kernel
theorem dJ2_getChar_3b067_46 : decode cJ2_getChar_3b067 46 = .ok (.aload_n 0, 1) := by decide +kernel
theorem dJ2_getChar_3b067_47 : decode cJ2_getChar_3b067 47 = .ok (.iload_n 1, 1) := by decide +kernel
theorem dJ2_getChar_3b067_48 : decode cJ2_getChar_3b067 48 = .ok (.baload, 1) := by decide +kernel
theorem dJ2_getChar_3b067_49 : decode cJ2_getChar_3b067 49 = .ok (.sipush 255, 3) := by decide +kernel
theorem dJ2_getChar_3b067_52 : decode cJ2_getChar_3b067 52 = .ok (.iand, 1) := by decide +kernel
theorem dJ2_getChar_3b067_53 : decode cJ2_getChar_3b067 53 = .ok (.getstatic 63, 3) := by decide +kernel
theorem dJ2_getChar_3b067_56 : decode cJ2_getChar_3b067 56 = .ok (.ishl, 1) := by decide +kernel
theorem dJ2_getChar_3b067_57 : decode cJ2_getChar_3b067 57 = .ok (.ior, 1) := by decide +kernel
theorem dJ2_getChar_3b067_58 : decode cJ2_getChar_3b067 58 = .ok (.i2c, 1) := by decide +kernel
theorem dJ2_getChar_3b067_59 : decode cJ2_getChar_3b067 59 = .ok (.ireturn, 1) := by decide +kernel
theorem dJ2_length_9d52b_0 : decode cJ2_length_9d52b 0 = .ok (.aload_n 0, 1) := by decide +kernel
theorem dJ2_length_9d52b_1 : decode cJ2_length_9d52b 1 = .ok (.arraylength, 1) := by decide +kernel
theorem dJ2_length_9d52b_2 : decode cJ2_length_9d52b 2 = .ok (.iconst 1, 1) := by decide +kernel
theorem dJ2_length_9d52b_3 : decode cJ2_length_9d52b 3 = .ok (.ishr, 1) := by decide +kernel
theorem dJ2_length_9d52b_4 : decode cJ2_length_9d52b 4 = .ok (.ireturn, 1) := by decide +kernel
theorem dJ2_charAt_3b067_0 : decode cJ2_charAt_3b067 0 = .ok (.iload_n 1, 1) := by decide +kernel
theorem dJ2_charAt_3b067_1 : decode cJ2_charAt_3b067 1 = .ok (.aload_n 0, 1) := by decide +kernel
theorem dJ2_charAt_3b067_2 : decode cJ2_charAt_3b067 2 = .ok (.invokestatic 67, 3) := by decide +kernel
theorem dJ2_charAt_3b067_5 : decode cJ2_charAt_3b067 5 = .ok (.aload_n 0, 1) := by decide +kernel
theorem dJ2_charAt_3b067_6 : decode cJ2_charAt_3b067 6 = .ok (.iload_n 1, 1) := by decide +kernel
theorem dJ2_charAt_3b067_7 : decode cJ2_charAt_3b067 7 = .ok (.invokestatic 71, 3) := by decide +kernel
theorem dJ2_charAt_3b067_10 : decode cJ2_charAt_3b067 10 = .ok (.ireturn, 1) := by decide +kernel
theorem dJ2_checkIndex_2214a_0 : decode cJ2_checkIndex_2214a 0 = .ok (.iload_n 0, 1) := by decide +kernel
theorem dJ2_checkIndex_2214a_1 : decode cJ2_checkIndex_2214a 1 = .ok (.aload_n 1, 1) := by decide +kernel
theorem dJ2_checkIndex_2214a_2 : decode cJ2_checkIndex_2214a 2 = .ok (.invokestatic 48, 3) := by decide +kernel
theorem dJ2_checkIndex_2214a_5 : decode cJ2_checkIndex_2214a 5 = .ok (.invokestatic 414, 3) := by decide +kernel
theorem dJ2_checkIndex_2214a_8 : decode cJ2_checkIndex_2214a 8 = .ok (.return_, 1) := by decide +kernel
theorem dJ7_fill_53178_0 : decode cJ7_fill_53178 0 = .ok (.iconst 0, 1) := by decide +kernel
theorem dJ7_fill_53178_1 : decode cJ7_fill_53178 1 = .ok (.istore_n 2, 1) := by decide +kernel
theorem dJ7_fill_53178_2 : decode cJ7_fill_53178 2 = .ok (.aload_n 0, 1) := by decide +kernel
theorem dJ7_fill_53178_3 : decode cJ7_fill_53178 3 = .ok (.arraylength, 1) := by decide +kernel
theorem dJ7_fill_53178_4 : decode cJ7_fill_53178 4 = .ok (.istore_n 3, 1) := by decide +kernel
theorem dJ7_fill_53178_5 : decode cJ7_fill_53178 5 = .ok (.iload_n 2, 1) := by decide +kernel
theorem dJ7_fill_53178_6 : decode cJ7_fill_53178 6 = .ok (.iload_n 3, 1) := by decide +kernel
theorem dJ7_fill_53178_7 : decode cJ7_fill_53178 7 = .ok (.if_icmp .ge 13, 3) := by decide +kernel
theorem dJ7_fill_53178_10 : decode cJ7_fill_53178 10 = .ok (.aload_n 0, 1) := by decide +kernel
theorem dJ7_fill_53178_11 : decode cJ7_fill_53178 11 = .ok (.iload_n 2, 1) := by decide +kernel
theorem dJ7_fill_53178_12 : decode cJ7_fill_53178 12 = .ok (.iload_n 1, 1) := by decide +kernel
theorem dJ7_fill_53178_13 : decode cJ7_fill_53178 13 = .ok (.iastore, 1) := by decide +kernel
theorem dJ7_fill_53178_14 : decode cJ7_fill_53178 14 = .ok (.iinc 2 1, 3) := by decide +kernel
theorem dJ7_fill_53178_17 : decode cJ7_fill_53178 17 = .ok (.goto (-12), 3) := by decide +kernel
theorem dJ7_fill_53178_20 : decode cJ7_fill_53178 20 = .ok (.return_, 1) := by decide +kernel
theorem dJ7_copyOf_59c91_0 : decode cJ7_copyOf_59c91 0 = .ok (.iload_n 1, 1) := by decide +kernel
theorem dJ7_copyOf_59c91_1 : decode cJ7_copyOf_59c91 1 = .ok (.aload_n 0, 1) := by decide +kernel
theorem dJ7_copyOf_59c91_2 : decode cJ7_copyOf_59c91 2 = .ok (.arraylength, 1) := by decide +kernel
theorem dJ7_copyOf_59c91_3 : decode cJ7_copyOf_59c91 3 = .ok (.if_icmp .ne 11, 3) := by decide +kernel
theorem dJ7_copyOf_59c91_6 : decode cJ7_copyOf_59c91 6 = .ok (.aload_n 0, 1) := by decide +kernel
theorem dJ7_copyOf_59c91_7 : decode cJ7_copyOf_59c91 7 = .ok (.invokevirtual 316, 3) := by decide +kernel
theorem dJ7_copyOf_59c91_10 : decode cJ7_copyOf_59c91 10 = .ok (.checkcast 317, 3) := by decide +kernel
theorem dJ7_copyOf_59c91_13 : decode cJ7_copyOf_59c91 13 = .ok (.areturn, 1) := by decide +kernel
theorem dJ7_copyOf_59c91_14 : decode cJ7_copyOf_59c91 14 = .ok (.iload_n 1, 1) := by decide +kernel
theorem dJ7_copyOf_59c91_15 : decode cJ7_copyOf_59c91 15 = .ok (.newarray .int, 2) := by decide +kernel
theorem dJ7_copyOf_59c91_17 : decode cJ7_copyOf_59c91 17 = .ok (.astore_n 2, 1) := by decide +kernel
theorem dJ7_copyOf_59c91_18 : decode cJ7_copyOf_59c91 18 = .ok (.aload_n 0, 1) := by decide +kernel
theorem dJ7_copyOf_59c91_19 : decode cJ7_copyOf_59c91 19 = .ok (.iconst 0, 1) := by decide +kernel
theorem dJ7_copyOf_59c91_20 : decode cJ7_copyOf_59c91 20 = .ok (.aload_n 2, 1) := by decide +kernel
theorem dJ7_copyOf_59c91_21 : decode cJ7_copyOf_59c91 21 = .ok (.iconst 0, 1) := by decide +kernel
theorem dJ7_copyOf_59c91_22 : decode cJ7_copyOf_59c91 22 = .ok (.aload_n 0, 1) := by decide +kernel
theorem dJ7_copyOf_59c91_23 : decode cJ7_copyOf_59c91 23 = .ok (.arraylength, 1) := by decide +kernel
theorem dJ7_copyOf_59c91_24 : decode cJ7_copyOf_59c91 24 = .ok (.iload_n 1, 1) := by decide +kernel
theorem dJ7_copyOf_59c91_25 : decode cJ7_copyOf_59c91 25 = .ok (.invokestatic 304, 3) := by decide +kernel
theorem dJ7_copyOf_59c91_28 : decode cJ7_copyOf_59c91 28 = .ok (.invokestatic 150, 3) := by decide +kernel
theorem dJ7_copyOf_59c91_31 : decode cJ7_copyOf_59c91 31 = .ok (.aload_n 2, 1) := by decide +kernel
theorem dJ7_copyOf_59c91_32 : decode cJ7_copyOf_59c91 32 = .ok (.areturn, 1) := by decide +kernel
theorem dJ3_checkIndex_8e157_0 : decode cJ3_checkIndex_8e157 0 = .ok (.iload_n 0, 1) := by decide +kernel
theorem dJ3_checkIndex_8e157_1 : decode cJ3_checkIndex_8e157 1 = .ok (.ifCond .lt 8, 3) := by decide +kernel
theorem dJ3_checkIndex_8e157_4 : decode cJ3_checkIndex_8e157 4 = .ok (.iload_n 0, 1) := by decide +kernel
theorem dJ3_checkIndex_8e157_5 : decode cJ3_checkIndex_8e157 5 = .ok (.iload_n 1, 1) := by decide +kernel
theorem dJ3_checkIndex_8e157_6 : decode cJ3_checkIndex_8e157 6 = .ok (.if_icmp .lt 10, 3) := by decide +kernel
theorem dJ3_checkIndex_8e157_9 : decode cJ3_checkIndex_8e157 9 = .ok (.aload_n 2, 1) := by decide +kernel
theorem dJ3_checkIndex_8e157_10 : decode cJ3_checkIndex_8e157 10 = .ok (.iload_n 0, 1) := by decide +kernel
theorem dJ3_checkIndex_8e157_11 : decode cJ3_checkIndex_8e157 11 = .ok (.iload_n 1, 1) := by decide +kernel
theorem dJ3_checkIndex_8e157_12 : decode cJ3_checkIndex_8e157 12 = .ok (.invokestatic 95, 3) := by decide +kernel
theorem dJ3_checkIndex_8e157_15 : decode cJ3_checkIndex_8e157 15 = .ok (.athrow, 1) := by decide +kernel
theorem dJ3_checkIndex_8e157_16 : decode cJ3_checkIndex_8e157 16 = .ok (.iload_n 0, 1) := by decide +kernel
theorem dJ3_checkIndex_8e157_17 : decode cJ3_checkIndex_8e157 17 = .ok (.ireturn, 1) := by decide +kernel
theorem dL_bank_0 : decode cL_bank 0 = .ok (.aload_n 1, 1) := by decide +kernel
theorem dL_bank_1 : decode cL_bank 1 = .ok (.iconst 0, 1) := by decide +kernel
theorem dL_bank_2 : decode cL_bank 2 = .ok (.aload_n 0, 1) := by decide +kernel
theorem dL_bank_3 : decode cL_bank 3 = .ok (.invokevirtual 7, 3) := by decide +kernel
theorem dL_bank_6 : decode cL_bank 6 = .ok (.i2l, 1) := by decide +kernel
theorem dL_bank_7 : decode cL_bank 7 = .ok (.lastore, 1) := by decide +kernel
theorem dL_bank_8 : decode cL_bank 8 = .ok (.goto 9, 3) := by decide +kernel
theorem dL_bank_11 : decode cL_bank 11 = .ok (.astore_n 2, 1) := by decide +kernel
theorem dL_bank_12 : decode cL_bank 12 = .ok (.iconst 1, 1) := by decide +kernel
theorem dL_bank_13 : decode cL_bank 13 = .ok (.ireturn, 1) := by decide +kernel
theorem dL_bank_14 : decode cL_bank 14 = .ok (.astore_n 2, 1) := by decide +kernel
theorem dL_bank_15 : decode cL_bank 15 = .ok (.iconst 2, 1) := by decide +kernel
theorem dL_bank_16 : decode cL_bank 16 = .ok (.ireturn, 1) := by decide +kernel
theorem dL_bank_17 : decode cL_bank 17 = .ok (.iconst 0, 1) := by decide +kernel
theorem dL_bank_18 : decode cL_bank 18 = .ok (.ireturn, 1) := by decide +kernel
theorem dL_law_0 : decode cL_law 0 = .ok (.aload_n 1, 1) := by decide +kernel
theorem dL_law_1 : decode cL_law 1 = .ok (.iconst 0, 1) := by decide +kernel
theorem dL_law_2 : decode cL_law 2 = .ok (.aload_n 0, 1) := by decide +kernel
theorem dL_law_3 : decode cL_law 3 = .ok (.invokevirtual 17, 3) := by decide +kernel
theorem dL_law_6 : decode cL_law 6 = .ok (.i2l, 1) := by decide +kernel
theorem dL_law_7 : decode cL_law 7 = .ok (.lastore, 1) := by decide +kernel
theorem dL_law_8 : decode cL_law 8 = .ok (.goto 6, 3) := by decide +kernel
theorem dL_law_11 : decode cL_law 11 = .ok (.astore_n 2, 1) := by decide +kernel
theorem dL_law_12 : decode cL_law 12 = .ok (.iconst 1, 1) := by decide +kernel
theorem dL_law_13 : decode cL_law 13 = .ok (.ireturn, 1) := by decide +kernel
theorem dL_law_14 : decode cL_law 14 = .ok (.iconst 0, 1) := by decide +kernel
theorem dL_law_15 : decode cL_law 15 = .ok (.ireturn, 1) := by decide +kernel
theorem dL_person_0 : decode cL_person 0 = .ok (.aload_n 3, 1) := by decide +kernel
theorem dL_person_1 : decode cL_person 1 = .ok (.iconst 0, 1) := by decide +kernel
theorem dL_person_2 : decode cL_person 2 = .ok (.aload_n 0, 1) := by decide +kernel
theorem dL_person_3 : decode cL_person 3 = .ok (.iload_n 1, 1) := by decide +kernel
theorem dL_person_4 : decode cL_person 4 = .ok (.iload_n 2, 1) := by decide +kernel
theorem dL_person_5 : decode cL_person 5 = .ok (.invokevirtual 20, 3) := by decide +kernel
theorem dL_person_8 : decode cL_person 8 = .ok (.i2l, 1) := by decide +kernel
theorem dL_person_9 : decode cL_person 9 = .ok (.lastore, 1) := by decide +kernel
theorem dL_person_10 : decode cL_person 10 = .ok (.goto 11, 3) := by decide +kernel
theorem dL_person_13 : decode cL_person 13 = .ok (.astore 4, 2) := by decide +kernel
theorem dL_person_15 : decode cL_person 15 = .ok (.iconst 1, 1) := by decide +kernel
theorem dL_person_16 : decode cL_person 16 = .ok (.ireturn, 1) := by decide +kernel
theorem dL_person_17 : decode cL_person 17 = .ok (.astore 4, 2) := by decide +kernel
theorem dL_person_19 : decode cL_person 19 = .ok (.iconst 2, 1) := by decide +kernel
theorem dL_person_20 : decode cL_person 20 = .ok (.ireturn, 1) := by decide +kernel
theorem dL_person_21 : decode cL_person 21 = .ok (.iconst 0, 1) := by decide +kernel
theorem dL_person_22 : decode cL_person 22 = .ok (.ireturn, 1) := by decide +kernel
theorem dL_pain_0 : decode cL_pain 0 = .ok (.aload_n 3, 1) := by decide +kernel
theorem dL_pain_1 : decode cL_pain 1 = .ok (.iconst 0, 1) := by decide +kernel
theorem dL_pain_2 : decode cL_pain 2 = .ok (.aload_n 0, 1) := by decide +kernel
theorem dL_pain_3 : decode cL_pain 3 = .ok (.iload_n 1, 1) := by decide +kernel
theorem dL_pain_4 : decode cL_pain 4 = .ok (.iload_n 2, 1) := by decide +kernel
theorem dL_pain_5 : decode cL_pain 5 = .ok (.invokevirtual 28, 3) := by decide +kernel
theorem dL_pain_8 : decode cL_pain 8 = .ok (.i2l, 1) := by decide +kernel
theorem dL_pain_9 : decode cL_pain 9 = .ok (.lastore, 1) := by decide +kernel
theorem dL_pain_10 : decode cL_pain 10 = .ok (.goto 7, 3) := by decide +kernel
theorem dL_pain_13 : decode cL_pain 13 = .ok (.astore 4, 2) := by decide +kernel
theorem dL_pain_15 : decode cL_pain 15 = .ok (.iconst 1, 1) := by decide +kernel
theorem dL_pain_16 : decode cL_pain 16 = .ok (.ireturn, 1) := by decide +kernel
theorem dL_pain_17 : decode cL_pain 17 = .ok (.iconst 0, 1) := by decide +kernel
theorem dL_pain_18 : decode cL_pain 18 = .ok (.ireturn, 1) := by decide +kernel
theorem dL_owed_0 : decode cL_owed 0 = .ok (.aload_n 3, 1) := by decide +kernel
theorem dL_owed_1 : decode cL_owed 1 = .ok (.iconst 0, 1) := by decide +kernel
theorem dL_owed_2 : decode cL_owed 2 = .ok (.aload_n 0, 1) := by decide +kernel
theorem dL_owed_3 : decode cL_owed 3 = .ok (.iload_n 1, 1) := by decide +kernel
theorem dL_owed_4 : decode cL_owed 4 = .ok (.iload_n 2, 1) := by decide +kernel
theorem dL_owed_5 : decode cL_owed 5 = .ok (.invokevirtual 31, 3) := by decide +kernel
theorem dL_owed_8 : decode cL_owed 8 = .ok (.i2l, 1) := by decide +kernel
theorem dL_owed_9 : decode cL_owed 9 = .ok (.lastore, 1) := by decide +kernel
theorem dL_owed_10 : decode cL_owed 10 = .ok (.goto 11, 3) := by decide +kernel
theorem dL_owed_13 : decode cL_owed 13 = .ok (.astore 4, 2) := by decide +kernel
theorem dL_owed_15 : decode cL_owed 15 = .ok (.iconst 1, 1) := by decide +kernel
theorem dL_owed_16 : decode cL_owed 16 = .ok (.ireturn, 1) := by decide +kernel
theorem dL_owed_17 : decode cL_owed 17 = .ok (.astore 4, 2) := by decide +kernel
theorem dL_owed_19 : decode cL_owed 19 = .ok (.iconst 2, 1) := by decide +kernel
theorem dL_owed_20 : decode cL_owed 20 = .ok (.ireturn, 1) := by decide +kernel
theorem dL_owed_21 : decode cL_owed 21 = .ok (.iconst 0, 1) := by decide +kernel
theorem dL_owed_22 : decode cL_owed 22 = .ok (.ireturn, 1) := by decide +kernel
theorem dL_today_0 : decode cL_today 0 = .ok (.aload_n 3, 1) := by decide +kernel
theorem dL_today_1 : decode cL_today 1 = .ok (.iconst 0, 1) := by decide +kernel
theorem dL_today_2 : decode cL_today 2 = .ok (.aload_n 0, 1) := by decide +kernel
theorem dL_today_3 : decode cL_today 3 = .ok (.iload_n 1, 1) := by decide +kernel
theorem dL_today_4 : decode cL_today 4 = .ok (.iload_n 2, 1) := by decide +kernel
theorem dL_today_5 : decode cL_today 5 = .ok (.invokevirtual 34, 3) := by decide +kernel
theorem dL_today_8 : decode cL_today 8 = .ok (.i2l, 1) := by decide +kernel
theorem dL_today_9 : decode cL_today 9 = .ok (.lastore, 1) := by decide +kernel
theorem dL_today_10 : decode cL_today 10 = .ok (.goto 15, 3) := by decide +kernel
theorem dL_today_13 : decode cL_today 13 = .ok (.astore 4, 2) := by decide +kernel
theorem dL_today_15 : decode cL_today 15 = .ok (.iconst 1, 1) := by decide +kernel
theorem dL_today_16 : decode cL_today 16 = .ok (.ireturn, 1) := by decide +kernel
theorem dL_today_17 : decode cL_today 17 = .ok (.astore 4, 2) := by decide +kernel
theorem dL_today_19 : decode cL_today 19 = .ok (.iconst 2, 1) := by decide +kernel
theorem dL_today_20 : decode cL_today 20 = .ok (.ireturn, 1) := by decide +kernel
theorem dL_today_21 : decode cL_today 21 = .ok (.astore 4, 2) := by decide +kernel
theorem dL_today_23 : decode cL_today 23 = .ok (.iconst 3, 1) := by decide +kernel
theorem dL_today_24 : decode cL_today 24 = .ok (.ireturn, 1) := by decide +kernel
theorem dL_today_25 : decode cL_today 25 = .ok (.iconst 0, 1) := by decide +kernel
theorem dL_today_26 : decode cL_today 26 = .ok (.ireturn, 1) := by decide +kernel
theorem dL_put_0 : decode cL_put 0 = .ok (.aload_n 3, 1) := by decide +kernel
theorem dL_put_1 : decode cL_put 1 = .ok (.iconst 0, 1) := by decide +kernel
theorem dL_put_2 : decode cL_put 2 = .ok (.aload_n 0, 1) := by decide +kernel
theorem dL_put_3 : decode cL_put 3 = .ok (.iload_n 1, 1) := by decide +kernel
theorem dL_put_4 : decode cL_put 4 = .ok (.iload_n 2, 1) := by decide +kernel
theorem dL_put_5 : decode cL_put 5 = .ok (.invokevirtual 39, 3) := by decide +kernel
theorem dL_put_8 : decode cL_put 8 = .ok (.i2l, 1) := by decide +kernel
theorem dL_put_9 : decode cL_put 9 = .ok (.lastore, 1) := by decide +kernel
theorem dL_put_10 : decode cL_put 10 = .ok (.goto 15, 3) := by decide +kernel
theorem dL_put_13 : decode cL_put 13 = .ok (.astore 4, 2) := by decide +kernel
theorem dL_put_15 : decode cL_put 15 = .ok (.iconst 1, 1) := by decide +kernel
theorem dL_put_16 : decode cL_put 16 = .ok (.ireturn, 1) := by decide +kernel
theorem dL_put_17 : decode cL_put 17 = .ok (.astore 4, 2) := by decide +kernel
theorem dL_put_19 : decode cL_put 19 = .ok (.iconst 2, 1) := by decide +kernel
theorem dL_put_20 : decode cL_put 20 = .ok (.ireturn, 1) := by decide +kernel
theorem dL_put_21 : decode cL_put 21 = .ok (.astore 4, 2) := by decide +kernel
theorem dL_put_23 : decode cL_put 23 = .ok (.iconst 3, 1) := by decide +kernel
theorem dL_put_24 : decode cL_put 24 = .ok (.ireturn, 1) := by decide +kernel
theorem dL_put_25 : decode cL_put 25 = .ok (.iconst 0, 1) := by decide +kernel
theorem dL_put_26 : decode cL_put 26 = .ok (.ireturn, 1) := by decide +kernel
theorem dL_draw_0 : decode cL_draw 0 = .ok (.aload_n 3, 1) := by decide +kernel
theorem dL_draw_1 : decode cL_draw 1 = .ok (.iconst 0, 1) := by decide +kernel
theorem dL_draw_2 : decode cL_draw 2 = .ok (.aload_n 0, 1) := by decide +kernel
theorem dL_draw_3 : decode cL_draw 3 = .ok (.iload_n 1, 1) := by decide +kernel
theorem dL_draw_4 : decode cL_draw 4 = .ok (.iload_n 2, 1) := by decide +kernel
theorem dL_draw_5 : decode cL_draw 5 = .ok (.invokevirtual 42, 3) := by decide +kernel
theorem dL_draw_8 : decode cL_draw 8 = .ok (.i2l, 1) := by decide +kernel
theorem dL_draw_9 : decode cL_draw 9 = .ok (.lastore, 1) := by decide +kernel
theorem dL_draw_10 : decode cL_draw 10 = .ok (.goto 15, 3) := by decide +kernel
theorem dL_draw_13 : decode cL_draw 13 = .ok (.astore 4, 2) := by decide +kernel
theorem dL_draw_15 : decode cL_draw 15 = .ok (.iconst 1, 1) := by decide +kernel
theorem dL_draw_16 : decode cL_draw 16 = .ok (.ireturn, 1) := by decide +kernel
theorem dL_draw_17 : decode cL_draw 17 = .ok (.astore 4, 2) := by decide +kernel
theorem dL_draw_19 : decode cL_draw 19 = .ok (.iconst 2, 1) := by decide +kernel
theorem dL_draw_20 : decode cL_draw 20 = .ok (.ireturn, 1) := by decide +kernel
theorem dL_draw_21 : decode cL_draw 21 = .ok (.astore 4, 2) := by decide +kernel
theorem dL_draw_23 : decode cL_draw 23 = .ok (.iconst 3, 1) := by decide +kernel
theorem dL_draw_24 : decode cL_draw 24 = .ok (.ireturn, 1) := by decide +kernel
theorem dL_draw_25 : decode cL_draw 25 = .ok (.iconst 0, 1) := by decide +kernel
theorem dL_draw_26 : decode cL_draw 26 = .ok (.ireturn, 1) := by decide +kernel
theorem dL_cheque_0 : decode cL_cheque 0 = .ok (.aload 4, 2) := by decide +kernel
theorem dL_cheque_2 : decode cL_cheque 2 = .ok (.iconst 0, 1) := by decide +kernel
theorem dL_cheque_3 : decode cL_cheque 3 = .ok (.aload_n 0, 1) := by decide +kernel
theorem dL_cheque_4 : decode cL_cheque 4 = .ok (.iload_n 1, 1) := by decide +kernel
theorem dL_cheque_5 : decode cL_cheque 5 = .ok (.iload_n 2, 1) := by decide +kernel
theorem dL_cheque_6 : decode cL_cheque 6 = .ok (.iload_n 3, 1) := by decide +kernel
theorem dL_cheque_7 : decode cL_cheque 7 = .ok (.invokevirtual 45, 3) := by decide +kernel
theorem dL_cheque_10 : decode cL_cheque 10 = .ok (.i2l, 1) := by decide +kernel
theorem dL_cheque_11 : decode cL_cheque 11 = .ok (.lastore, 1) := by decide +kernel
theorem dL_cheque_12 : decode cL_cheque 12 = .ok (.goto 15, 3) := by decide +kernel
theorem dL_cheque_15 : decode cL_cheque 15 = .ok (.astore 5, 2) := by decide +kernel
theorem dL_cheque_17 : decode cL_cheque 17 = .ok (.iconst 1, 1) := by decide +kernel
theorem dL_cheque_18 : decode cL_cheque 18 = .ok (.ireturn, 1) := by decide +kernel
theorem dL_cheque_19 : decode cL_cheque 19 = .ok (.astore 5, 2) := by decide +kernel
theorem dL_cheque_21 : decode cL_cheque 21 = .ok (.iconst 2, 1) := by decide +kernel
theorem dL_cheque_22 : decode cL_cheque 22 = .ok (.ireturn, 1) := by decide +kernel
theorem dL_cheque_23 : decode cL_cheque 23 = .ok (.astore 5, 2) := by decide +kernel
theorem dL_cheque_25 : decode cL_cheque 25 = .ok (.iconst 3, 1) := by decide +kernel
theorem dL_cheque_26 : decode cL_cheque 26 = .ok (.ireturn, 1) := by decide +kernel
theorem dL_cheque_27 : decode cL_cheque 27 = .ok (.iconst 0, 1) := by decide +kernel
theorem dL_cheque_28 : decode cL_cheque 28 = .ok (.ireturn, 1) := by decide +kernel
theorem dL_owe_0 : decode cL_owe 0 = .ok (.aload 4, 2) := by decide +kernel
theorem dL_owe_2 : decode cL_owe 2 = .ok (.iconst 0, 1) := by decide +kernel
theorem dL_owe_3 : decode cL_owe 3 = .ok (.aload_n 0, 1) := by decide +kernel
theorem dL_owe_4 : decode cL_owe 4 = .ok (.iload_n 1, 1) := by decide +kernel
theorem dL_owe_5 : decode cL_owe 5 = .ok (.iload_n 2, 1) := by decide +kernel
theorem dL_owe_6 : decode cL_owe 6 = .ok (.iload_n 3, 1) := by decide +kernel
theorem dL_owe_7 : decode cL_owe 7 = .ok (.invokevirtual 49, 3) := by decide +kernel
theorem dL_owe_10 : decode cL_owe 10 = .ok (.i2l, 1) := by decide +kernel
theorem dL_owe_11 : decode cL_owe 11 = .ok (.lastore, 1) := by decide +kernel
theorem dL_owe_12 : decode cL_owe 12 = .ok (.goto 15, 3) := by decide +kernel
theorem dL_owe_15 : decode cL_owe 15 = .ok (.astore 5, 2) := by decide +kernel
theorem dL_owe_17 : decode cL_owe 17 = .ok (.iconst 1, 1) := by decide +kernel
theorem dL_owe_18 : decode cL_owe 18 = .ok (.ireturn, 1) := by decide +kernel
theorem dL_owe_19 : decode cL_owe 19 = .ok (.astore 5, 2) := by decide +kernel
theorem dL_owe_21 : decode cL_owe 21 = .ok (.iconst 2, 1) := by decide +kernel
theorem dL_owe_22 : decode cL_owe 22 = .ok (.ireturn, 1) := by decide +kernel
theorem dL_owe_23 : decode cL_owe 23 = .ok (.astore 5, 2) := by decide +kernel
theorem dL_owe_25 : decode cL_owe 25 = .ok (.iconst 3, 1) := by decide +kernel
theorem dL_owe_26 : decode cL_owe 26 = .ok (.ireturn, 1) := by decide +kernel
theorem dL_owe_27 : decode cL_owe 27 = .ok (.iconst 0, 1) := by decide +kernel
theorem dL_owe_28 : decode cL_owe 28 = .ok (.ireturn, 1) := by decide +kernel
theorem dL_die_0 : decode cL_die 0 = .ok (.aload_n 2, 1) := by decide +kernel
theorem dL_die_1 : decode cL_die 1 = .ok (.iconst 0, 1) := by decide +kernel
theorem dL_die_2 : decode cL_die 2 = .ok (.aload_n 0, 1) := by decide +kernel
theorem dL_die_3 : decode cL_die 3 = .ok (.iload_n 1, 1) := by decide +kernel
theorem dL_die_4 : decode cL_die 4 = .ok (.invokevirtual 52, 3) := by decide +kernel
theorem dL_die_7 : decode cL_die 7 = .ok (.i2l, 1) := by decide +kernel
theorem dL_die_8 : decode cL_die 8 = .ok (.lastore, 1) := by decide +kernel
theorem dL_die_9 : decode cL_die 9 = .ok (.goto 9, 3) := by decide +kernel
theorem dL_die_12 : decode cL_die 12 = .ok (.astore_n 3, 1) := by decide +kernel
theorem dL_die_13 : decode cL_die 13 = .ok (.iconst 1, 1) := by decide +kernel
theorem dL_die_14 : decode cL_die 14 = .ok (.ireturn, 1) := by decide +kernel
theorem dL_die_15 : decode cL_die 15 = .ok (.astore_n 3, 1) := by decide +kernel
theorem dL_die_16 : decode cL_die 16 = .ok (.iconst 2, 1) := by decide +kernel
theorem dL_die_17 : decode cL_die 17 = .ok (.ireturn, 1) := by decide +kernel
theorem dL_die_18 : decode cL_die 18 = .ok (.iconst 0, 1) := by decide +kernel
theorem dL_die_19 : decode cL_die 19 = .ok (.ireturn, 1) := by decide +kernel
theorem dL_hear_0 : decode cL_hear 0 = .ok (.aload_n 3, 1) := by decide +kernel
theorem dL_hear_1 : decode cL_hear 1 = .ok (.iconst 0, 1) := by decide +kernel
theorem dL_hear_2 : decode cL_hear 2 = .ok (.aload_n 0, 1) := by decide +kernel
theorem dL_hear_3 : decode cL_hear 3 = .ok (.iload_n 1, 1) := by decide +kernel
theorem dL_hear_4 : decode cL_hear 4 = .ok (.iload_n 2, 1) := by decide +kernel
theorem dL_hear_5 : decode cL_hear 5 = .ok (.invokevirtual 56, 3) := by decide +kernel
theorem dL_hear_8 : decode cL_hear 8 = .ok (.i2l, 1) := by decide +kernel
theorem dL_hear_9 : decode cL_hear 9 = .ok (.lastore, 1) := by decide +kernel
theorem dL_hear_10 : decode cL_hear 10 = .ok (.goto 7, 3) := by decide +kernel
theorem dL_hear_13 : decode cL_hear 13 = .ok (.astore 4, 2) := by decide +kernel
theorem dL_hear_15 : decode cL_hear 15 = .ok (.iconst 1, 1) := by decide +kernel
theorem dL_hear_16 : decode cL_hear 16 = .ok (.ireturn, 1) := by decide +kernel
theorem dL_hear_17 : decode cL_hear 17 = .ok (.iconst 0, 1) := by decide +kernel
theorem dL_hear_18 : decode cL_hear 18 = .ok (.ireturn, 1) := by decide +kernel
theorem dL_days_0 : decode cL_days 0 = .ok (.aload_n 2, 1) := by decide +kernel
theorem dL_days_1 : decode cL_days 1 = .ok (.iconst 0, 1) := by decide +kernel
theorem dL_days_2 : decode cL_days 2 = .ok (.aload_n 0, 1) := by decide +kernel
theorem dL_days_3 : decode cL_days 3 = .ok (.iload_n 1, 1) := by decide +kernel
theorem dL_days_4 : decode cL_days 4 = .ok (.invokevirtual 59, 3) := by decide +kernel
theorem dL_days_7 : decode cL_days 7 = .ok (.i2l, 1) := by decide +kernel
theorem dL_days_8 : decode cL_days 8 = .ok (.lastore, 1) := by decide +kernel
theorem dL_days_9 : decode cL_days 9 = .ok (.goto 6, 3) := by decide +kernel
theorem dL_days_12 : decode cL_days 12 = .ok (.astore_n 3, 1) := by decide +kernel
theorem dL_days_13 : decode cL_days 13 = .ok (.iconst 1, 1) := by decide +kernel
theorem dL_days_14 : decode cL_days 14 = .ok (.ireturn, 1) := by decide +kernel
theorem dL_days_15 : decode cL_days 15 = .ok (.iconst 0, 1) := by decide +kernel
theorem dL_days_16 : decode cL_days 16 = .ok (.ireturn, 1) := by decide +kernel
theorem dL_ahead_0 : decode cL_ahead 0 = .ok (.aload_n 3, 1) := by decide +kernel
theorem dL_ahead_1 : decode cL_ahead 1 = .ok (.iconst 0, 1) := by decide +kernel
theorem dL_ahead_2 : decode cL_ahead 2 = .ok (.aload_n 0, 1) := by decide +kernel
theorem dL_ahead_3 : decode cL_ahead 3 = .ok (.iload_n 1, 1) := by decide +kernel
theorem dL_ahead_4 : decode cL_ahead 4 = .ok (.iload_n 2, 1) := by decide +kernel
theorem dL_ahead_5 : decode cL_ahead 5 = .ok (.invokevirtual 62, 3) := by decide +kernel
theorem dL_ahead_8 : decode cL_ahead 8 = .ok (.i2l, 1) := by decide +kernel
theorem dL_ahead_9 : decode cL_ahead 9 = .ok (.lastore, 1) := by decide +kernel
theorem dL_ahead_10 : decode cL_ahead 10 = .ok (.goto 11, 3) := by decide +kernel
theorem dL_ahead_13 : decode cL_ahead 13 = .ok (.astore 4, 2) := by decide +kernel
theorem dL_ahead_15 : decode cL_ahead 15 = .ok (.iconst 1, 1) := by decide +kernel
theorem dL_ahead_16 : decode cL_ahead 16 = .ok (.ireturn, 1) := by decide +kernel
theorem dL_ahead_17 : decode cL_ahead 17 = .ok (.astore 4, 2) := by decide +kernel
theorem dL_ahead_19 : decode cL_ahead 19 = .ok (.iconst 2, 1) := by decide +kernel
theorem dL_ahead_20 : decode cL_ahead 20 = .ok (.ireturn, 1) := by decide +kernel
theorem dL_ahead_21 : decode cL_ahead 21 = .ok (.iconst 0, 1) := by decide +kernel
theorem dL_ahead_22 : decode cL_ahead 22 = .ok (.ireturn, 1) := by decide +kernel
theorem dL_fails_0 : decode cL_fails 0 = .ok (.aload_n 2, 1) := by decide +kernel
theorem dL_fails_1 : decode cL_fails 1 = .ok (.iconst 0, 1) := by decide +kernel
theorem dL_fails_2 : decode cL_fails 2 = .ok (.aload_n 0, 1) := by decide +kernel
theorem dL_fails_3 : decode cL_fails 3 = .ok (.iload_n 1, 1) := by decide +kernel
theorem dL_fails_4 : decode cL_fails 4 = .ok (.invokevirtual 65, 3) := by decide +kernel
theorem dL_fails_7 : decode cL_fails 7 = .ok (.ifCond .eq 7, 3) := by decide +kernel
theorem dL_fails_10 : decode cL_fails 10 = .ok (.lconst 1, 1) := by decide +kernel
theorem dL_fails_11 : decode cL_fails 11 = .ok (.goto 4, 3) := by decide +kernel
theorem dL_fails_14 : decode cL_fails 14 = .ok (.lconst 0, 1) := by decide +kernel
theorem dL_fails_15 : decode cL_fails 15 = .ok (.lastore, 1) := by decide +kernel
theorem dL_fails_16 : decode cL_fails 16 = .ok (.goto 6, 3) := by decide +kernel
theorem dL_fails_19 : decode cL_fails 19 = .ok (.astore_n 3, 1) := by decide +kernel
theorem dL_fails_20 : decode cL_fails 20 = .ok (.iconst 1, 1) := by decide +kernel
theorem dL_fails_21 : decode cL_fails 21 = .ok (.ireturn, 1) := by decide +kernel
theorem dL_fails_22 : decode cL_fails 22 = .ok (.iconst 0, 1) := by decide +kernel
theorem dL_fails_23 : decode cL_fails 23 = .ok (.ireturn, 1) := by decide +kernel
theorem dL_plan_0 : decode cL_plan 0 = .ok (.aload 4, 2) := by decide +kernel
theorem dL_plan_2 : decode cL_plan 2 = .ok (.iconst 0, 1) := by decide +kernel
theorem dL_plan_3 : decode cL_plan 3 = .ok (.aload_n 0, 1) := by decide +kernel
theorem dL_plan_4 : decode cL_plan 4 = .ok (.iload_n 1, 1) := by decide +kernel
theorem dL_plan_5 : decode cL_plan 5 = .ok (.iload_n 2, 1) := by decide +kernel
