theorem dX0_read_0 : decode cX0_read 0 = .ok (.aload_n 0, 1) := by decide +kernel
theorem dX0_read_1 : decode cX0_read 1 = .ok (.invokevirtual 9, 3) := by decide +kernel
theorem dX0_read_4 : decode cX0_read 4 = .ok (.ifCond .eq 5, 3) := by decide +kernel
theorem dX0_read_7 : decode cX0_read 7 = .ok (.iconst 1, 1) := by decide +kernel
theorem dX0_read_8 : decode cX0_read 8 = .ok (.ireturn, 1) := by decide +kernel
theorem dX0_read_9 : decode cX0_read 9 = .ok (.iconst 0, 1) := by decide +kernel
theorem dX0_read_10 : decode cX0_read 10 = .ok (.istore_n 2, 1) := by decide +kernel
theorem dX0_read_11 : decode cX0_read 11 = .ok (.iload_n 2, 1) := by decide +kernel
theorem dX0_read_12 : decode cX0_read 12 = .ok (.bipush 14, 2) := by decide +kernel
theorem dX0_read_14 : decode cX0_read 14 = .ok (.if_icmp .ge 39, 3) := by decide +kernel
theorem dX0_read_17 : decode cX0_read 17 = .ok (.aload_n 0, 1) := by decide +kernel
theorem dX0_read_18 : decode cX0_read 18 = .ok (.aload_n 1, 1) := by decide +kernel
theorem dX0_read_19 : decode cX0_read 19 = .ok (.invokestatic 15, 3) := by decide +kernel
theorem dX0_read_22 : decode cX0_read 22 = .ok (.ifCond .ne 5, 3) := by decide +kernel
theorem dX0_read_25 : decode cX0_read 25 = .ok (.iconst 0, 1) := by decide +kernel
theorem dX0_read_26 : decode cX0_read 26 = .ok (.ireturn, 1) := by decide +kernel
theorem dX0_read_27 : decode cX0_read 27 = .ok (.aload_n 0, 1) := by decide +kernel
theorem dX0_read_28 : decode cX0_read 28 = .ok (.invokevirtual 9, 3) := by decide +kernel
theorem dX0_read_31 : decode cX0_read 31 = .ok (.ifCond .eq 5, 3) := by decide +kernel
theorem dX0_read_34 : decode cX0_read 34 = .ok (.iconst 1, 1) := by decide +kernel
theorem dX0_read_35 : decode cX0_read 35 = .ok (.ireturn, 1) := by decide +kernel
theorem dX0_read_36 : decode cX0_read 36 = .ok (.aload_n 0, 1) := by decide +kernel
theorem dX0_read_37 : decode cX0_read 37 = .ok (.bipush 59, 2) := by decide +kernel
theorem dX0_read_39 : decode cX0_read 39 = .ok (.invokevirtual 21, 3) := by decide +kernel
theorem dX0_read_42 : decode cX0_read 42 = .ok (.ifCond .ne 5, 3) := by decide +kernel
theorem dX0_read_45 : decode cX0_read 45 = .ok (.iconst 0, 1) := by decide +kernel
theorem dX0_read_46 : decode cX0_read 46 = .ok (.ireturn, 1) := by decide +kernel
theorem dX0_read_47 : decode cX0_read 47 = .ok (.iinc 2 1, 3) := by decide +kernel
theorem dX0_read_50 : decode cX0_read 50 = .ok (.goto (-39), 3) := by decide +kernel
theorem dX0_read_53 : decode cX0_read 53 = .ok (.iconst 0, 1) := by decide +kernel
theorem dX0_read_54 : decode cX0_read 54 = .ok (.ireturn, 1) := by decide +kernel
theorem dX0_readLine_0 : decode cX0_readLine 0 = .ok (.aload_n 0, 1) := by decide +kernel
theorem dX0_readLine_1 : decode cX0_readLine 1 = .ok (.ldc 25, 2) := by decide +kernel
theorem dX0_readLine_3 : decode cX0_readLine 3 = .ok (.invokevirtual 27, 3) := by decide +kernel
theorem dX0_readLine_6 : decode cX0_readLine 6 = .ok (.ifCond .eq 9, 3) := by decide +kernel
theorem dX0_readLine_9 : decode cX0_readLine 9 = .ok (.aload_n 0, 1) := by decide +kernel
theorem dX0_readLine_10 : decode cX0_readLine 10 = .ok (.aload_n 1, 1) := by decide +kernel
theorem dX0_readLine_11 : decode cX0_readLine 11 = .ok (.invokestatic 31, 3) := by decide +kernel
theorem dX0_readLine_14 : decode cX0_readLine 14 = .ok (.ireturn, 1) := by decide +kernel
theorem dX0_readLine_15 : decode cX0_readLine 15 = .ok (.aload_n 0, 1) := by decide +kernel
theorem dX0_readLine_16 : decode cX0_readLine 16 = .ok (.ldc 34, 2) := by decide +kernel
theorem dX0_readLine_18 : decode cX0_readLine 18 = .ok (.invokevirtual 27, 3) := by decide +kernel
theorem dX0_readLine_21 : decode cX0_readLine 21 = .ok (.ifCond .ne 21, 3) := by decide +kernel
theorem dX0_readLine_24 : decode cX0_readLine 24 = .ok (.aload_n 0, 1) := by decide +kernel
theorem dX0_readLine_25 : decode cX0_readLine 25 = .ok (.ldc 36, 2) := by decide +kernel
theorem dX0_readLine_27 : decode cX0_readLine 27 = .ok (.invokevirtual 27, 3) := by decide +kernel
theorem dX0_readLine_30 : decode cX0_readLine 30 = .ok (.ifCond .ne 12, 3) := by decide +kernel
theorem dX0_readLine_33 : decode cX0_readLine 33 = .ok (.aload_n 0, 1) := by decide +kernel
theorem dX0_readLine_34 : decode cX0_readLine 34 = .ok (.ldc 38, 2) := by decide +kernel
theorem dX0_readLine_36 : decode cX0_readLine 36 = .ok (.invokevirtual 27, 3) := by decide +kernel
theorem dX0_readLine_39 : decode cX0_readLine 39 = .ok (.ifCond .eq 9, 3) := by decide +kernel
theorem dX0_readLine_42 : decode cX0_readLine 42 = .ok (.aload_n 0, 1) := by decide +kernel
theorem dX0_readLine_43 : decode cX0_readLine 43 = .ok (.aload_n 1, 1) := by decide +kernel
theorem dX0_readLine_44 : decode cX0_readLine 44 = .ok (.invokestatic 40, 3) := by decide +kernel
theorem dX0_readLine_47 : decode cX0_readLine 47 = .ok (.ireturn, 1) := by decide +kernel
theorem dX0_readLine_48 : decode cX0_readLine 48 = .ok (.aload_n 0, 1) := by decide +kernel
theorem dX0_readLine_49 : decode cX0_readLine 49 = .ok (.ldc 43, 2) := by decide +kernel
theorem dX0_readLine_51 : decode cX0_readLine 51 = .ok (.invokevirtual 27, 3) := by decide +kernel
theorem dX0_readLine_54 : decode cX0_readLine 54 = .ok (.ifCond .ne 21, 3) := by decide +kernel
theorem dX0_readLine_57 : decode cX0_readLine 57 = .ok (.aload_n 0, 1) := by decide +kernel
theorem dX0_readLine_58 : decode cX0_readLine 58 = .ok (.ldc 45, 2) := by decide +kernel
theorem dX0_readLine_60 : decode cX0_readLine 60 = .ok (.invokevirtual 27, 3) := by decide +kernel
theorem dX0_readLine_63 : decode cX0_readLine 63 = .ok (.ifCond .ne 12, 3) := by decide +kernel
theorem dX0_readLine_66 : decode cX0_readLine 66 = .ok (.aload_n 0, 1) := by decide +kernel
theorem dX0_readLine_67 : decode cX0_readLine 67 = .ok (.ldc 47, 2) := by decide +kernel
theorem dX0_readLine_69 : decode cX0_readLine 69 = .ok (.invokevirtual 27, 3) := by decide +kernel
theorem dX0_readLine_72 : decode cX0_readLine 72 = .ok (.ifCond .eq 9, 3) := by decide +kernel
theorem dX0_readLine_75 : decode cX0_readLine 75 = .ok (.aload_n 0, 1) := by decide +kernel
theorem dX0_readLine_76 : decode cX0_readLine 76 = .ok (.aload_n 1, 1) := by decide +kernel
theorem dX0_readLine_77 : decode cX0_readLine 77 = .ok (.invokestatic 49, 3) := by decide +kernel
theorem dX0_readLine_80 : decode cX0_readLine 80 = .ok (.ireturn, 1) := by decide +kernel
theorem dX0_readLine_81 : decode cX0_readLine 81 = .ok (.aload_n 0, 1) := by decide +kernel
theorem dX0_readLine_82 : decode cX0_readLine 82 = .ok (.aload_n 1, 1) := by decide +kernel
theorem dX0_readLine_83 : decode cX0_readLine 83 = .ok (.invokestatic 52, 3) := by decide +kernel
theorem dX0_readLine_86 : decode cX0_readLine 86 = .ok (.ireturn, 1) := by decide +kernel
theorem dX0_readPerson_0 : decode cX0_readPerson 0 = .ok (.aload_n 1, 1) := by decide +kernel
theorem dX0_readPerson_1 : decode cX0_readPerson 1 = .ok (.getfield 55, 3) := by decide +kernel
theorem dX0_readPerson_4 : decode cX0_readPerson 4 = .ok (.bipush 8, 2) := by decide +kernel
theorem dX0_readPerson_6 : decode cX0_readPerson 6 = .ok (.if_icmp .lt 5, 3) := by decide +kernel
theorem dX0_readPerson_9 : decode cX0_readPerson 9 = .ok (.iconst 0, 1) := by decide +kernel
theorem dX0_readPerson_10 : decode cX0_readPerson 10 = .ok (.ireturn, 1) := by decide +kernel
theorem dX0_readPerson_11 : decode cX0_readPerson 11 = .ok (.aload_n 0, 1) := by decide +kernel
theorem dX0_readPerson_12 : decode cX0_readPerson 12 = .ok (.invokevirtual 61, 3) := by decide +kernel
theorem dX0_readPerson_15 : decode cX0_readPerson 15 = .ok (.aload_n 0, 1) := by decide +kernel
theorem dX0_readPerson_16 : decode cX0_readPerson 16 = .ok (.ldc 64, 2) := by decide +kernel
theorem dX0_readPerson_18 : decode cX0_readPerson 18 = .ok (.invokevirtual 66, 3) := by decide +kernel
theorem dX0_readPerson_21 : decode cX0_readPerson 21 = .ok (.ifCond .eq 14, 3) := by decide +kernel
theorem dX0_readPerson_24 : decode cX0_readPerson 24 = .ok (.aload_n 0, 1) := by decide +kernel
theorem dX0_readPerson_25 : decode cX0_readPerson 25 = .ok (.iconst 5, 1) := by decide +kernel
theorem dX0_readPerson_26 : decode cX0_readPerson 26 = .ok (.iconst 1, 1) := by decide +kernel
theorem dX0_readPerson_27 : decode cX0_readPerson 27 = .ok (.bipush 99, 2) := by decide +kernel
theorem dX0_readPerson_29 : decode cX0_readPerson 29 = .ok (.invokevirtual 69, 3) := by decide +kernel
theorem dX0_readPerson_32 : decode cX0_readPerson 32 = .ok (.ifCond .ne 5, 3) := by decide +kernel
theorem dX0_readPerson_35 : decode cX0_readPerson 35 = .ok (.iconst 0, 1) := by decide +kernel
theorem dX0_readPerson_36 : decode cX0_readPerson 36 = .ok (.ireturn, 1) := by decide +kernel
theorem dX0_readPerson_37 : decode cX0_readPerson 37 = .ok (.aload_n 0, 1) := by decide +kernel
theorem dX0_readPerson_38 : decode cX0_readPerson 38 = .ok (.getfield 73, 3) := by decide +kernel
theorem dX0_readPerson_41 : decode cX0_readPerson 41 = .ok (.istore_n 2, 1) := by decide +kernel
theorem dX0_readPerson_42 : decode cX0_readPerson 42 = .ok (.aload_n 0, 1) := by decide +kernel
theorem dX0_readPerson_43 : decode cX0_readPerson 43 = .ok (.invokevirtual 61, 3) := by decide +kernel
theorem dX0_readPerson_46 : decode cX0_readPerson 46 = .ok (.aload_n 0, 1) := by decide +kernel
theorem dX0_readPerson_47 : decode cX0_readPerson 47 = .ok (.ldc 76, 2) := by decide +kernel
theorem dX0_readPerson_49 : decode cX0_readPerson 49 = .ok (.invokevirtual 66, 3) := by decide +kernel
theorem dX0_readPerson_52 : decode cX0_readPerson 52 = .ok (.ifCond .eq 24, 3) := by decide +kernel
theorem dX0_readPerson_55 : decode cX0_readPerson 55 = .ok (.aload_n 0, 1) := by decide +kernel
theorem dX0_readPerson_56 : decode cX0_readPerson 56 = .ok (.bipush 7, 2) := by decide +kernel
theorem dX0_readPerson_58 : decode cX0_readPerson 58 = .ok (.iconst 0, 1) := by decide +kernel
theorem dX0_readPerson_59 : decode cX0_readPerson 59 = .ok (.ldc 78, 2) := by decide +kernel
theorem dX0_readPerson_61 : decode cX0_readPerson 61 = .ok (.invokevirtual 69, 3) := by decide +kernel
theorem dX0_readPerson_64 : decode cX0_readPerson 64 = .ok (.ifCond .eq 12, 3) := by decide +kernel
theorem dX0_readPerson_67 : decode cX0_readPerson 67 = .ok (.aload_n 0, 1) := by decide +kernel
theorem dX0_readPerson_68 : decode cX0_readPerson 68 = .ok (.getfield 79, 3) := by decide +kernel
theorem dX0_readPerson_71 : decode cX0_readPerson 71 = .ok (.bipush 7, 2) := by decide +kernel
theorem dX0_readPerson_73 : decode cX0_readPerson 73 = .ok (.if_icmp .eq 5, 3) := by decide +kernel
theorem dX0_readPerson_76 : decode cX0_readPerson 76 = .ok (.iconst 0, 1) := by decide +kernel
theorem dX0_readPerson_77 : decode cX0_readPerson 77 = .ok (.ireturn, 1) := by decide +kernel
theorem dX0_readPerson_78 : decode cX0_readPerson 78 = .ok (.aload_n 1, 1) := by decide +kernel
theorem dX0_readPerson_79 : decode cX0_readPerson 79 = .ok (.getfield 55, 3) := by decide +kernel
theorem dX0_readPerson_82 : decode cX0_readPerson 82 = .ok (.istore_n 3, 1) := by decide +kernel
theorem dX0_readPerson_83 : decode cX0_readPerson 83 = .ok (.aload_n 0, 1) := by decide +kernel
theorem dX0_readPerson_84 : decode cX0_readPerson 84 = .ok (.getfield 73, 3) := by decide +kernel
theorem dX0_readPerson_87 : decode cX0_readPerson 87 = .ok (.istore 4, 2) := by decide +kernel
theorem dX0_readPerson_89 : decode cX0_readPerson 89 = .ok (.bipush 6, 2) := by decide +kernel
theorem dX0_readPerson_91 : decode cX0_readPerson 91 = .ok (.istore 5, 2) := by decide +kernel
theorem dX0_readPerson_93 : decode cX0_readPerson 93 = .ok (.iload 5, 2) := by decide +kernel
theorem dX0_readPerson_95 : decode cX0_readPerson 95 = .ok (.ifCond .lt 33, 3) := by decide +kernel
theorem dX0_readPerson_98 : decode cX0_readPerson 98 = .ok (.aload_n 1, 1) := by decide +kernel
theorem dX0_readPerson_99 : decode cX0_readPerson 99 = .ok (.getfield 82, 3) := by decide +kernel
theorem dX0_readPerson_102 : decode cX0_readPerson 102 = .ok (.iload_n 3, 1) := by decide +kernel
theorem dX0_readPerson_103 : decode cX0_readPerson 103 = .ok (.bipush 7, 2) := by decide +kernel
theorem dX0_readPerson_105 : decode cX0_readPerson 105 = .ok (.imul, 1) := by decide +kernel
theorem dX0_readPerson_106 : decode cX0_readPerson 106 = .ok (.iload 5, 2) := by decide +kernel
theorem dX0_readPerson_108 : decode cX0_readPerson 108 = .ok (.iadd, 1) := by decide +kernel
theorem dX0_readPerson_109 : decode cX0_readPerson 109 = .ok (.iload 4, 2) := by decide +kernel
theorem dX0_readPerson_111 : decode cX0_readPerson 111 = .ok (.bipush 10, 2) := by decide +kernel
theorem dX0_readPerson_113 : decode cX0_readPerson 113 = .ok (.irem, 1) := by decide +kernel
theorem dX0_readPerson_114 : decode cX0_readPerson 114 = .ok (.iastore, 1) := by decide +kernel
theorem dX0_readPerson_115 : decode cX0_readPerson 115 = .ok (.iload 4, 2) := by decide +kernel
theorem dX0_readPerson_117 : decode cX0_readPerson 117 = .ok (.bipush 10, 2) := by decide +kernel
theorem dX0_readPerson_119 : decode cX0_readPerson 119 = .ok (.idiv, 1) := by decide +kernel
theorem dX0_readPerson_120 : decode cX0_readPerson 120 = .ok (.istore 4, 2) := by decide +kernel
theorem dX0_readPerson_122 : decode cX0_readPerson 122 = .ok (.iinc 5 (-1), 3) := by decide +kernel
theorem dX0_readPerson_125 : decode cX0_readPerson 125 = .ok (.goto (-32), 3) := by decide +kernel
theorem dX0_readPerson_128 : decode cX0_readPerson 128 = .ok (.aload_n 1, 1) := by decide +kernel
theorem dX0_readPerson_129 : decode cX0_readPerson 129 = .ok (.getfield 86, 3) := by decide +kernel
theorem dX0_readPerson_132 : decode cX0_readPerson 132 = .ok (.iload_n 3, 1) := by decide +kernel
theorem dX0_readPerson_133 : decode cX0_readPerson 133 = .ok (.iload_n 2, 1) := by decide +kernel
theorem dX0_readPerson_134 : decode cX0_readPerson 134 = .ok (.iastore, 1) := by decide +kernel
theorem dX0_readPerson_135 : decode cX0_readPerson 135 = .ok (.aload_n 1, 1) := by decide +kernel
theorem dX0_readPerson_136 : decode cX0_readPerson 136 = .ok (.getfield 88, 3) := by decide +kernel
theorem dX0_readPerson_139 : decode cX0_readPerson 139 = .ok (.iload_n 3, 1) := by decide +kernel
theorem dX0_readPerson_140 : decode cX0_readPerson 140 = .ok (.iconst (-1), 1) := by decide +kernel
theorem dX0_readPerson_141 : decode cX0_readPerson 141 = .ok (.iastore, 1) := by decide +kernel
theorem dX0_readPerson_142 : decode cX0_readPerson 142 = .ok (.aload_n 1, 1) := by decide +kernel
theorem dX0_readPerson_143 : decode cX0_readPerson 143 = .ok (.dup, 1) := by decide +kernel
theorem dX0_readPerson_144 : decode cX0_readPerson 144 = .ok (.getfield 90, 3) := by decide +kernel
theorem dX0_readPerson_147 : decode cX0_readPerson 147 = .ok (.iconst 1, 1) := by decide +kernel
theorem dX0_readPerson_148 : decode cX0_readPerson 148 = .ok (.iload_n 3, 1) := by decide +kernel
theorem dX0_readPerson_149 : decode cX0_readPerson 149 = .ok (.ishl, 1) := by decide +kernel
theorem dX0_readPerson_150 : decode cX0_readPerson 150 = .ok (.ior, 1) := by decide +kernel
theorem dX0_readPerson_151 : decode cX0_readPerson 151 = .ok (.putfield 90, 3) := by decide +kernel
theorem dX0_readPerson_154 : decode cX0_readPerson 154 = .ok (.aload_n 1, 1) := by decide +kernel
theorem dX0_readPerson_155 : decode cX0_readPerson 155 = .ok (.dup, 1) := by decide +kernel
theorem dX0_readPerson_156 : decode cX0_readPerson 156 = .ok (.getfield 55, 3) := by decide +kernel
theorem dX0_readPerson_159 : decode cX0_readPerson 159 = .ok (.iconst 1, 1) := by decide +kernel
theorem dX0_readPerson_160 : decode cX0_readPerson 160 = .ok (.iadd, 1) := by decide +kernel
theorem dX0_readPerson_161 : decode cX0_readPerson 161 = .ok (.putfield 55, 3) := by decide +kernel
theorem dX0_readPerson_164 : decode cX0_readPerson 164 = .ok (.aload_n 0, 1) := by decide +kernel
theorem dX0_readPerson_165 : decode cX0_readPerson 165 = .ok (.invokevirtual 61, 3) := by decide +kernel
theorem dX0_readPerson_168 : decode cX0_readPerson 168 = .ok (.iconst 1, 1) := by decide +kernel
theorem dX0_readPerson_169 : decode cX0_readPerson 169 = .ok (.ireturn, 1) := by decide +kernel
theorem dX0_readTwo_0 : decode cX0_readTwo 0 = .ok (.aload_n 0, 1) := by decide +kernel
theorem dX0_readTwo_1 : decode cX0_readTwo 1 = .ok (.ldc 34, 2) := by decide +kernel
theorem dX0_readTwo_3 : decode cX0_readTwo 3 = .ok (.invokevirtual 27, 3) := by decide +kernel
theorem dX0_readTwo_6 : decode cX0_readTwo 6 = .ok (.istore_n 2, 1) := by decide +kernel
theorem dX0_readTwo_7 : decode cX0_readTwo 7 = .ok (.aload_n 0, 1) := by decide +kernel
theorem dX0_readTwo_8 : decode cX0_readTwo 8 = .ok (.ldc 38, 2) := by decide +kernel
theorem dX0_readTwo_10 : decode cX0_readTwo 10 = .ok (.invokevirtual 27, 3) := by decide +kernel
theorem dX0_readTwo_13 : decode cX0_readTwo 13 = .ok (.istore_n 3, 1) := by decide +kernel
theorem dX0_readTwo_14 : decode cX0_readTwo 14 = .ok (.aload_n 0, 1) := by decide +kernel
theorem dX0_readTwo_15 : decode cX0_readTwo 15 = .ok (.invokevirtual 61, 3) := by decide +kernel
theorem dX0_readTwo_18 : decode cX0_readTwo 18 = .ok (.aload_n 0, 1) := by decide +kernel
theorem dX0_readTwo_19 : decode cX0_readTwo 19 = .ok (.aload_n 1, 1) := by decide +kernel
theorem dX0_readTwo_20 : decode cX0_readTwo 20 = .ok (.invokestatic 93, 3) := by decide +kernel
theorem dX0_readTwo_23 : decode cX0_readTwo 23 = .ok (.ifCond .ne 5, 3) := by decide +kernel
theorem dX0_readTwo_26 : decode cX0_readTwo 26 = .ok (.iconst 0, 1) := by decide +kernel
theorem dX0_readTwo_27 : decode cX0_readTwo 27 = .ok (.ireturn, 1) := by decide +kernel
theorem dX0_readTwo_28 : decode cX0_readTwo 28 = .ok (.aload_n 0, 1) := by decide +kernel
theorem dX0_readTwo_29 : decode cX0_readTwo 29 = .ok (.getfield 73, 3) := by decide +kernel
theorem dX0_readTwo_32 : decode cX0_readTwo 32 = .ok (.istore 4, 2) := by decide +kernel
theorem dX0_readTwo_34 : decode cX0_readTwo 34 = .ok (.aload_n 0, 1) := by decide +kernel
theorem dX0_readTwo_35 : decode cX0_readTwo 35 = .ok (.invokevirtual 61, 3) := by decide +kernel
theorem dX0_readTwo_38 : decode cX0_readTwo 38 = .ok (.aload_n 0, 1) := by decide +kernel
theorem dX0_readTwo_39 : decode cX0_readTwo 39 = .ok (.aload_n 1, 1) := by decide +kernel
theorem dX0_readTwo_40 : decode cX0_readTwo 40 = .ok (.invokestatic 93, 3) := by decide +kernel
theorem dX0_readTwo_43 : decode cX0_readTwo 43 = .ok (.ifCond .eq 12, 3) := by decide +kernel
theorem dX0_readTwo_46 : decode cX0_readTwo 46 = .ok (.aload_n 0, 1) := by decide +kernel
theorem dX0_readTwo_47 : decode cX0_readTwo 47 = .ok (.getfield 73, 3) := by decide +kernel
theorem dX0_readTwo_50 : decode cX0_readTwo 50 = .ok (.iload 4, 2) := by decide +kernel
theorem dX0_readTwo_52 : decode cX0_readTwo 52 = .ok (.if_icmp .ne 5, 3) := by decide +kernel
theorem dX0_readTwo_55 : decode cX0_readTwo 55 = .ok (.iconst 0, 1) := by decide +kernel
theorem dX0_readTwo_56 : decode cX0_readTwo 56 = .ok (.ireturn, 1) := by decide +kernel
theorem dX0_readTwo_57 : decode cX0_readTwo 57 = .ok (.aload_n 0, 1) := by decide +kernel
theorem dX0_readTwo_58 : decode cX0_readTwo 58 = .ok (.getfield 73, 3) := by decide +kernel
theorem dX0_readTwo_61 : decode cX0_readTwo 61 = .ok (.istore 5, 2) := by decide +kernel
theorem dX0_readTwo_63 : decode cX0_readTwo 63 = .ok (.aload_n 0, 1) := by decide +kernel
theorem dX0_readTwo_64 : decode cX0_readTwo 64 = .ok (.invokevirtual 61, 3) := by decide +kernel
theorem dX0_readTwo_67 : decode cX0_readTwo 67 = .ok (.iload_n 2, 1) := by decide +kernel
theorem dX0_readTwo_68 : decode cX0_readTwo 68 = .ok (.ifCond .eq 15, 3) := by decide +kernel
theorem dX0_readTwo_71 : decode cX0_readTwo 71 = .ok (.aload_n 1, 1) := by decide +kernel
theorem dX0_readTwo_72 : decode cX0_readTwo 72 = .ok (.getfield 88, 3) := by decide +kernel
theorem dX0_readTwo_75 : decode cX0_readTwo 75 = .ok (.iload 4, 2) := by decide +kernel
theorem dX0_readTwo_77 : decode cX0_readTwo 77 = .ok (.iload 5, 2) := by decide +kernel
theorem dX0_readTwo_79 : decode cX0_readTwo 79 = .ok (.iastore, 1) := by decide +kernel
theorem dX0_readTwo_80 : decode cX0_readTwo 80 = .ok (.goto 59, 3) := by decide +kernel
theorem dX0_readTwo_83 : decode cX0_readTwo 83 = .ok (.iload_n 3, 1) := by decide +kernel
theorem dX0_readTwo_84 : decode cX0_readTwo 84 = .ok (.ifCond .ne 20, 3) := by decide +kernel
theorem dX0_readTwo_87 : decode cX0_readTwo 87 = .ok (.aload_n 1, 1) := by decide +kernel
theorem dX0_readTwo_88 : decode cX0_readTwo 88 = .ok (.getfield 96, 3) := by decide +kernel
theorem dX0_readTwo_91 : decode cX0_readTwo 91 = .ok (.iload 4, 2) := by decide +kernel
theorem dX0_readTwo_93 : decode cX0_readTwo 93 = .ok (.dup2, 1) := by decide +kernel
theorem dX0_readTwo_94 : decode cX0_readTwo 94 = .ok (.iaload, 1) := by decide +kernel
theorem dX0_readTwo_95 : decode cX0_readTwo 95 = .ok (.iconst 1, 1) := by decide +kernel
theorem dX0_readTwo_96 : decode cX0_readTwo 96 = .ok (.iload 5, 2) := by decide +kernel
theorem dX0_readTwo_98 : decode cX0_readTwo 98 = .ok (.ishl, 1) := by decide +kernel
theorem dX0_readTwo_99 : decode cX0_readTwo 99 = .ok (.ior, 1) := by decide +kernel
theorem dX0_readTwo_100 : decode cX0_readTwo 100 = .ok (.iastore, 1) := by decide +kernel
theorem dX0_readTwo_101 : decode cX0_readTwo 101 = .ok (.goto 38, 3) := by decide +kernel
theorem dX0_readTwo_104 : decode cX0_readTwo 104 = .ok (.aload_n 0, 1) := by decide +kernel
theorem dX0_readTwo_105 : decode cX0_readTwo 105 = .ok (.iconst 5, 1) := by decide +kernel
theorem dX0_readTwo_106 : decode cX0_readTwo 106 = .ok (.iconst 0, 1) := by decide +kernel
theorem dX0_readTwo_107 : decode cX0_readTwo 107 = .ok (.sipush 9999, 3) := by decide +kernel
theorem dX0_readTwo_110 : decode cX0_readTwo 110 = .ok (.invokevirtual 69, 3) := by decide +kernel
theorem dX0_readTwo_113 : decode cX0_readTwo 113 = .ok (.ifCond .ne 5, 3) := by decide +kernel
theorem dX0_readTwo_116 : decode cX0_readTwo 116 = .ok (.iconst 0, 1) := by decide +kernel
theorem dX0_readTwo_117 : decode cX0_readTwo 117 = .ok (.ireturn, 1) := by decide +kernel
theorem dX0_readTwo_118 : decode cX0_readTwo 118 = .ok (.aload_n 1, 1) := by decide +kernel
theorem dX0_readTwo_119 : decode cX0_readTwo 119 = .ok (.getfield 98, 3) := by decide +kernel
theorem dX0_readTwo_122 : decode cX0_readTwo 122 = .ok (.iload 4, 2) := by decide +kernel
theorem dX0_readTwo_124 : decode cX0_readTwo 124 = .ok (.bipush 8, 2) := by decide +kernel
theorem dX0_readTwo_126 : decode cX0_readTwo 126 = .ok (.imul, 1) := by decide +kernel
theorem dX0_readTwo_127 : decode cX0_readTwo 127 = .ok (.iload 5, 2) := by decide +kernel
theorem dX0_readTwo_129 : decode cX0_readTwo 129 = .ok (.iadd, 1) := by decide +kernel
theorem dX0_readTwo_130 : decode cX0_readTwo 130 = .ok (.aload_n 0, 1) := by decide +kernel
theorem dX0_readTwo_131 : decode cX0_readTwo 131 = .ok (.getfield 73, 3) := by decide +kernel
theorem dX0_readTwo_134 : decode cX0_readTwo 134 = .ok (.iastore, 1) := by decide +kernel
theorem dX0_readTwo_135 : decode cX0_readTwo 135 = .ok (.aload_n 0, 1) := by decide +kernel
theorem dX0_readTwo_136 : decode cX0_readTwo 136 = .ok (.invokevirtual 61, 3) := by decide +kernel
theorem dX0_readTwo_139 : decode cX0_readTwo 139 = .ok (.iconst 1, 1) := by decide +kernel
theorem dX0_readTwo_140 : decode cX0_readTwo 140 = .ok (.ireturn, 1) := by decide +kernel
theorem dX0_readOne_0 : decode cX0_readOne 0 = .ok (.aload_n 0, 1) := by decide +kernel
theorem dX0_readOne_1 : decode cX0_readOne 1 = .ok (.ldc 47, 2) := by decide +kernel
theorem dX0_readOne_3 : decode cX0_readOne 3 = .ok (.invokevirtual 27, 3) := by decide +kernel
theorem dX0_readOne_6 : decode cX0_readOne 6 = .ok (.istore_n 2, 1) := by decide +kernel
theorem dX0_readOne_7 : decode cX0_readOne 7 = .ok (.aload_n 0, 1) := by decide +kernel
theorem dX0_readOne_8 : decode cX0_readOne 8 = .ok (.ldc 45, 2) := by decide +kernel
theorem dX0_readOne_10 : decode cX0_readOne 10 = .ok (.invokevirtual 27, 3) := by decide +kernel
theorem dX0_readOne_13 : decode cX0_readOne 13 = .ok (.istore_n 3, 1) := by decide +kernel
theorem dX0_readOne_14 : decode cX0_readOne 14 = .ok (.aload_n 0, 1) := by decide +kernel
theorem dX0_readOne_15 : decode cX0_readOne 15 = .ok (.invokevirtual 61, 3) := by decide +kernel
theorem dX0_readOne_18 : decode cX0_readOne 18 = .ok (.aload_n 0, 1) := by decide +kernel
theorem dX0_readOne_19 : decode cX0_readOne 19 = .ok (.aload_n 1, 1) := by decide +kernel
theorem dX0_readOne_20 : decode cX0_readOne 20 = .ok (.invokestatic 93, 3) := by decide +kernel
theorem dX0_readOne_23 : decode cX0_readOne 23 = .ok (.ifCond .ne 5, 3) := by decide +kernel
theorem dX0_readOne_26 : decode cX0_readOne 26 = .ok (.iconst 0, 1) := by decide +kernel
theorem dX0_readOne_27 : decode cX0_readOne 27 = .ok (.ireturn, 1) := by decide +kernel
theorem dX0_readOne_28 : decode cX0_readOne 28 = .ok (.aload_n 0, 1) := by decide +kernel
theorem dX0_readOne_29 : decode cX0_readOne 29 = .ok (.getfield 73, 3) := by decide +kernel
theorem dX0_readOne_32 : decode cX0_readOne 32 = .ok (.istore 4, 2) := by decide +kernel
theorem dX0_readOne_34 : decode cX0_readOne 34 = .ok (.aload_n 0, 1) := by decide +kernel
theorem dX0_readOne_35 : decode cX0_readOne 35 = .ok (.invokevirtual 61, 3) := by decide +kernel
theorem dX0_readOne_38 : decode cX0_readOne 38 = .ok (.iload_n 2, 1) := by decide +kernel
theorem dX0_readOne_39 : decode cX0_readOne 39 = .ok (.ifCond .eq 20, 3) := by decide +kernel
theorem dX0_readOne_42 : decode cX0_readOne 42 = .ok (.aload_n 1, 1) := by decide +kernel
theorem dX0_readOne_43 : decode cX0_readOne 43 = .ok (.dup, 1) := by decide +kernel
theorem dX0_readOne_44 : decode cX0_readOne 44 = .ok (.getfield 90, 3) := by decide +kernel
theorem dX0_readOne_47 : decode cX0_readOne 47 = .ok (.iconst 1, 1) := by decide +kernel
theorem dX0_readOne_48 : decode cX0_readOne 48 = .ok (.iload 4, 2) := by decide +kernel
theorem dX0_readOne_50 : decode cX0_readOne 50 = .ok (.ishl, 1) := by decide +kernel
theorem dX0_readOne_51 : decode cX0_readOne 51 = .ok (.iconst (-1), 1) := by decide +kernel
theorem dX0_readOne_52 : decode cX0_readOne 52 = .ok (.ixor, 1) := by decide +kernel
theorem dX0_readOne_53 : decode cX0_readOne 53 = .ok (.iand, 1) := by decide +kernel
theorem dX0_readOne_54 : decode cX0_readOne 54 = .ok (.putfield 90, 3) := by decide +kernel
theorem dX0_readOne_57 : decode cX0_readOne 57 = .ok (.iconst 1, 1) := by decide +kernel
theorem dX0_readOne_58 : decode cX0_readOne 58 = .ok (.ireturn, 1) := by decide +kernel
theorem dX0_readOne_59 : decode cX0_readOne 59 = .ok (.aload_n 0, 1) := by decide +kernel
theorem dX0_readOne_60 : decode cX0_readOne 60 = .ok (.iconst 5, 1) := by decide +kernel
theorem dX0_readOne_61 : decode cX0_readOne 61 = .ok (.iconst 0, 1) := by decide +kernel
theorem dX0_readOne_62 : decode cX0_readOne 62 = .ok (.iload_n 3, 1) := by decide +kernel
theorem dX0_readOne_63 : decode cX0_readOne 63 = .ok (.ifCond .eq 13, 3) := by decide +kernel
theorem dX0_readOne_66 : decode cX0_readOne 66 = .ok (.aload_n 1, 1) := by decide +kernel
theorem dX0_readOne_67 : decode cX0_readOne 67 = .ok (.getfield 101, 3) := by decide +kernel
theorem dX0_readOne_70 : decode cX0_readOne 70 = .ok (.iload 4, 2) := by decide +kernel
theorem dX0_readOne_72 : decode cX0_readOne 72 = .ok (.iaload, 1) := by decide +kernel
theorem dX0_readOne_73 : decode cX0_readOne 73 = .ok (.goto 5, 3) := by decide +kernel
theorem dX0_readOne_76 : decode cX0_readOne 76 = .ok (.ldc 103, 2) := by decide +kernel
theorem dX0_readOne_78 : decode cX0_readOne 78 = .ok (.invokevirtual 69, 3) := by decide +kernel
theorem dX0_readOne_81 : decode cX0_readOne 81 = .ok (.ifCond .ne 5, 3) := by decide +kernel
theorem dX0_readOne_84 : decode cX0_readOne 84 = .ok (.iconst 0, 1) := by decide +kernel
theorem dX0_readOne_85 : decode cX0_readOne 85 = .ok (.ireturn, 1) := by decide +kernel
theorem dX0_readOne_86 : decode cX0_readOne 86 = .ok (.iload_n 3, 1) := by decide +kernel
theorem dX0_readOne_87 : decode cX0_readOne 87 = .ok (.ifCond .ne 14, 3) := by decide +kernel
theorem dX0_readOne_90 : decode cX0_readOne 90 = .ok (.aload_n 1, 1) := by decide +kernel
theorem dX0_readOne_91 : decode cX0_readOne 91 = .ok (.getfield 101, 3) := by decide +kernel
theorem dX0_readOne_94 : decode cX0_readOne 94 = .ok (.iload 4, 2) := by decide +kernel
theorem dX0_readOne_96 : decode cX0_readOne 96 = .ok (.aload_n 0, 1) := by decide +kernel
theorem dX0_readOne_97 : decode cX0_readOne 97 = .ok (.getfield 73, 3) := by decide +kernel
theorem dX0_readOne_100 : decode cX0_readOne 100 = .ok (.iastore, 1) := by decide +kernel
theorem dX0_readOne_101 : decode cX0_readOne 101 = .ok (.aload_n 1, 1) := by decide +kernel
theorem dX0_readOne_102 : decode cX0_readOne 102 = .ok (.getfield 104, 3) := by decide +kernel
theorem dX0_readOne_105 : decode cX0_readOne 105 = .ok (.iload 4, 2) := by decide +kernel
theorem dX0_readOne_107 : decode cX0_readOne 107 = .ok (.iload_n 3, 1) := by decide +kernel
theorem dX0_readOne_108 : decode cX0_readOne 108 = .ok (.ifCond .eq 10, 3) := by decide +kernel
theorem dX0_readOne_111 : decode cX0_readOne 111 = .ok (.aload_n 0, 1) := by decide +kernel
theorem dX0_readOne_112 : decode cX0_readOne 112 = .ok (.getfield 73, 3) := by decide +kernel
theorem dX0_readOne_115 : decode cX0_readOne 115 = .ok (.goto 4, 3) := by decide +kernel
theorem dX0_readOne_118 : decode cX0_readOne 118 = .ok (.iconst 0, 1) := by decide +kernel
theorem dX0_readOne_119 : decode cX0_readOne 119 = .ok (.iastore, 1) := by decide +kernel
theorem dX0_readOne_120 : decode cX0_readOne 120 = .ok (.aload_n 0, 1) := by decide +kernel
theorem dX0_readOne_121 : decode cX0_readOne 121 = .ok (.invokevirtual 61, 3) := by decide +kernel
theorem dX0_readOne_124 : decode cX0_readOne 124 = .ok (.iconst 1, 1) := by decide +kernel
theorem dX0_readOne_125 : decode cX0_readOne 125 = .ok (.ireturn, 1) := by decide +kernel
theorem dX0_readSetting_0 : decode cX0_readSetting 0 = .ok (.aload_n 0, 1) := by decide +kernel
theorem dX0_readSetting_1 : decode cX0_readSetting 1 = .ok (.ldc 106, 2) := by decide +kernel
theorem dX0_readSetting_3 : decode cX0_readSetting 3 = .ok (.invokevirtual 27, 3) := by decide +kernel
theorem dX0_readSetting_6 : decode cX0_readSetting 6 = .ok (.istore_n 2, 1) := by decide +kernel
theorem dX0_readSetting_7 : decode cX0_readSetting 7 = .ok (.aload_n 0, 1) := by decide +kernel
theorem dX0_readSetting_8 : decode cX0_readSetting 8 = .ok (.ldc 108, 2) := by decide +kernel
theorem dX0_readSetting_10 : decode cX0_readSetting 10 = .ok (.invokevirtual 27, 3) := by decide +kernel
theorem dX0_readSetting_13 : decode cX0_readSetting 13 = .ok (.istore_n 3, 1) := by decide +kernel
theorem dX0_readSetting_14 : decode cX0_readSetting 14 = .ok (.aload_n 0, 1) := by decide +kernel
theorem dX0_readSetting_15 : decode cX0_readSetting 15 = .ok (.ldc 110, 2) := by decide +kernel
theorem dX0_readSetting_17 : decode cX0_readSetting 17 = .ok (.invokevirtual 27, 3) := by decide +kernel
theorem dX0_readSetting_20 : decode cX0_readSetting 20 = .ok (.istore 4, 2) := by decide +kernel
theorem dX0_readSetting_22 : decode cX0_readSetting 22 = .ok (.iload_n 2, 1) := by decide +kernel
theorem dX0_readSetting_23 : decode cX0_readSetting 23 = .ok (.ifCond .ne 23, 3) := by decide +kernel
theorem dX0_readSetting_26 : decode cX0_readSetting 26 = .ok (.iload_n 3, 1) := by decide +kernel
theorem dX0_readSetting_27 : decode cX0_readSetting 27 = .ok (.ifCond .ne 19, 3) := by decide +kernel
theorem dX0_readSetting_30 : decode cX0_readSetting 30 = .ok (.iload 4, 2) := by decide +kernel
theorem dX0_readSetting_32 : decode cX0_readSetting 32 = .ok (.ifCond .ne 14, 3) := by decide +kernel
theorem dX0_readSetting_35 : decode cX0_readSetting 35 = .ok (.aload_n 0, 1) := by decide +kernel
theorem dX0_readSetting_36 : decode cX0_readSetting 36 = .ok (.ldc 112, 2) := by decide +kernel
theorem dX0_readSetting_38 : decode cX0_readSetting 38 = .ok (.invokevirtual 27, 3) := by decide +kernel
theorem dX0_readSetting_41 : decode cX0_readSetting 41 = .ok (.ifCond .ne 5, 3) := by decide +kernel
theorem dX0_readSetting_44 : decode cX0_readSetting 44 = .ok (.iconst 0, 1) := by decide +kernel
theorem dX0_readSetting_45 : decode cX0_readSetting 45 = .ok (.ireturn, 1) := by decide +kernel
theorem dX0_readSetting_46 : decode cX0_readSetting 46 = .ok (.aload_n 0, 1) := by decide +kernel
theorem dX0_readSetting_47 : decode cX0_readSetting 47 = .ok (.invokevirtual 61, 3) := by decide +kernel
theorem dX0_readSetting_50 : decode cX0_readSetting 50 = .ok (.iload_n 2, 1) := by decide +kernel
theorem dX0_readSetting_51 : decode cX0_readSetting 51 = .ok (.ifCond .eq 8, 3) := by decide +kernel
theorem dX0_readSetting_54 : decode cX0_readSetting 54 = .ok (.ldc 103, 2) := by decide +kernel
theorem dX0_readSetting_56 : decode cX0_readSetting 56 = .ok (.goto 14, 3) := by decide +kernel
theorem dX0_readSetting_59 : decode cX0_readSetting 59 = .ok (.iload_n 3, 1) := by decide +kernel
theorem dX0_readSetting_60 : decode cX0_readSetting 60 = .ok (.ifCond .eq 8, 3) := by decide +kernel
theorem dX0_readSetting_63 : decode cX0_readSetting 63 = .ok (.bipush 20, 2) := by decide +kernel
theorem dX0_readSetting_65 : decode cX0_readSetting 65 = .ok (.goto 5, 3) := by decide +kernel
theorem dX0_readSetting_68 : decode cX0_readSetting 68 = .ok (.bipush 100, 2) := by decide +kernel
theorem dX0_readSetting_70 : decode cX0_readSetting 70 = .ok (.istore 5, 2) := by decide +kernel
theorem dX0_readSetting_72 : decode cX0_readSetting 72 = .ok (.aload_n 0, 1) := by decide +kernel
theorem dX0_readSetting_73 : decode cX0_readSetting 73 = .ok (.iconst 5, 1) := by decide +kernel
theorem dX0_readSetting_74 : decode cX0_readSetting 74 = .ok (.iconst 0, 1) := by decide +kernel
theorem dX0_readSetting_75 : decode cX0_readSetting 75 = .ok (.iload 5, 2) := by decide +kernel
theorem dX0_readSetting_77 : decode cX0_readSetting 77 = .ok (.invokevirtual 69, 3) := by decide +kernel
theorem dX0_readSetting_80 : decode cX0_readSetting 80 = .ok (.ifCond .ne 5, 3) := by decide +kernel
theorem dX0_readSetting_83 : decode cX0_readSetting 83 = .ok (.iconst 0, 1) := by decide +kernel
theorem dX0_readSetting_84 : decode cX0_readSetting 84 = .ok (.ireturn, 1) := by decide +kernel
theorem dX0_readSetting_85 : decode cX0_readSetting 85 = .ok (.iload_n 2, 1) := by decide +kernel
theorem dX0_readSetting_86 : decode cX0_readSetting 86 = .ok (.ifCond .eq 14, 3) := by decide +kernel
theorem dX0_readSetting_89 : decode cX0_readSetting 89 = .ok (.aload_n 1, 1) := by decide +kernel
theorem dX0_readSetting_90 : decode cX0_readSetting 90 = .ok (.aload_n 0, 1) := by decide +kernel
theorem dX0_readSetting_91 : decode cX0_readSetting 91 = .ok (.getfield 73, 3) := by decide +kernel
theorem dX0_readSetting_94 : decode cX0_readSetting 94 = .ok (.putfield 114, 3) := by decide +kernel
theorem dX0_readSetting_97 : decode cX0_readSetting 97 = .ok (.goto 42, 3) := by decide +kernel
theorem dX0_readSetting_100 : decode cX0_readSetting 100 = .ok (.iload_n 3, 1) := by decide +kernel
theorem dX0_readSetting_101 : decode cX0_readSetting 101 = .ok (.ifCond .eq 14, 3) := by decide +kernel
theorem dX0_readSetting_104 : decode cX0_readSetting 104 = .ok (.aload_n 1, 1) := by decide +kernel
theorem dX0_readSetting_105 : decode cX0_readSetting 105 = .ok (.aload_n 0, 1) := by decide +kernel
theorem dX0_readSetting_106 : decode cX0_readSetting 106 = .ok (.getfield 73, 3) := by decide +kernel
theorem dX0_readSetting_109 : decode cX0_readSetting 109 = .ok (.putfield 116, 3) := by decide +kernel
theorem dX0_readSetting_112 : decode cX0_readSetting 112 = .ok (.goto 27, 3) := by decide +kernel
theorem dX0_readSetting_115 : decode cX0_readSetting 115 = .ok (.iload 4, 2) := by decide +kernel
theorem dX0_readSetting_117 : decode cX0_readSetting 117 = .ok (.ifCond .eq 14, 3) := by decide +kernel
theorem dX0_readSetting_120 : decode cX0_readSetting 120 = .ok (.aload_n 1, 1) := by decide +kernel
theorem dX0_readSetting_121 : decode cX0_readSetting 121 = .ok (.aload_n 0, 1) := by decide +kernel
theorem dX0_readSetting_122 : decode cX0_readSetting 122 = .ok (.getfield 73, 3) := by decide +kernel
theorem dX0_readSetting_125 : decode cX0_readSetting 125 = .ok (.putfield 118, 3) := by decide +kernel
theorem dX0_readSetting_128 : decode cX0_readSetting 128 = .ok (.goto 11, 3) := by decide +kernel
theorem dX0_readSetting_131 : decode cX0_readSetting 131 = .ok (.aload_n 1, 1) := by decide +kernel
theorem dX0_readSetting_132 : decode cX0_readSetting 132 = .ok (.aload_n 0, 1) := by decide +kernel
theorem dX0_readSetting_133 : decode cX0_readSetting 133 = .ok (.getfield 73, 3) := by decide +kernel
theorem dX0_readSetting_136 : decode cX0_readSetting 136 = .ok (.putfield 120, 3) := by decide +kernel
theorem dX0_readSetting_139 : decode cX0_readSetting 139 = .ok (.aload_n 0, 1) := by decide +kernel
theorem dX0_readSetting_140 : decode cX0_readSetting 140 = .ok (.invokevirtual 61, 3) := by decide +kernel
theorem dX0_readSetting_143 : decode cX0_readSetting 143 = .ok (.iconst 1, 1) := by decide +kernel
theorem dX0_readSetting_144 : decode cX0_readSetting 144 = .ok (.ireturn, 1) := by decide +kernel
theorem dX0_isPerson_0 : decode cX0_isPerson 0 = .ok (.aload_n 0, 1) := by decide +kernel
theorem dX0_isPerson_1 : decode cX0_isPerson 1 = .ok (.iconst 5, 1) := by decide +kernel
theorem dX0_isPerson_2 : decode cX0_isPerson 2 = .ok (.iconst 0, 1) := by decide +kernel
theorem dX0_isPerson_3 : decode cX0_isPerson 3 = .ok (.aload_n 1, 1) := by decide +kernel
theorem dX0_isPerson_4 : decode cX0_isPerson 4 = .ok (.getfield 55, 3) := by decide +kernel
theorem dX0_isPerson_7 : decode cX0_isPerson 7 = .ok (.iconst 1, 1) := by decide +kernel
theorem dX0_isPerson_8 : decode cX0_isPerson 8 = .ok (.isub, 1) := by decide +kernel
theorem dX0_isPerson_9 : decode cX0_isPerson 9 = .ok (.invokevirtual 69, 3) := by decide +kernel
theorem dX0_isPerson_12 : decode cX0_isPerson 12 = .ok (.ireturn, 1) := by decide +kernel
theorem dX1_worstDay_0 : decode cX1_worstDay 0 = .ok (.iconst 0, 1) := by decide +kernel
theorem dX1_worstDay_1 : decode cX1_worstDay 1 = .ok (.istore_n 2, 1) := by decide +kernel
theorem dX1_worstDay_2 : decode cX1_worstDay 2 = .ok (.iconst 1, 1) := by decide +kernel
theorem dX1_worstDay_3 : decode cX1_worstDay 3 = .ok (.istore_n 3, 1) := by decide +kernel
theorem dX1_worstDay_4 : decode cX1_worstDay 4 = .ok (.iload_n 3, 1) := by decide +kernel
theorem dX1_worstDay_5 : decode cX1_worstDay 5 = .ok (.bipush 7, 2) := by decide +kernel
theorem dX1_worstDay_7 : decode cX1_worstDay 7 = .ok (.if_icmp .ge 26, 3) := by decide +kernel
theorem dX1_worstDay_10 : decode cX1_worstDay 10 = .ok (.aload_n 0, 1) := by decide +kernel
theorem dX1_worstDay_11 : decode cX1_worstDay 11 = .ok (.iload_n 1, 1) := by decide +kernel
theorem dX1_worstDay_12 : decode cX1_worstDay 12 = .ok (.iload_n 3, 1) := by decide +kernel
theorem dX1_worstDay_13 : decode cX1_worstDay 13 = .ok (.invokevirtual 9, 3) := by decide +kernel
theorem dX1_worstDay_16 : decode cX1_worstDay 16 = .ok (.aload_n 0, 1) := by decide +kernel
theorem dX1_worstDay_17 : decode cX1_worstDay 17 = .ok (.iload_n 1, 1) := by decide +kernel
theorem dX1_worstDay_18 : decode cX1_worstDay 18 = .ok (.iload_n 2, 1) := by decide +kernel
theorem dX1_worstDay_19 : decode cX1_worstDay 19 = .ok (.invokevirtual 9, 3) := by decide +kernel
theorem dX1_worstDay_22 : decode cX1_worstDay 22 = .ok (.if_icmp .le 5, 3) := by decide +kernel
theorem dX1_worstDay_25 : decode cX1_worstDay 25 = .ok (.iload_n 3, 1) := by decide +kernel
theorem dX1_worstDay_26 : decode cX1_worstDay 26 = .ok (.istore_n 2, 1) := by decide +kernel
theorem dX1_worstDay_27 : decode cX1_worstDay 27 = .ok (.iinc 3 1, 3) := by decide +kernel
theorem dX1_worstDay_30 : decode cX1_worstDay 30 = .ok (.goto (-26), 3) := by decide +kernel
theorem dX1_worstDay_33 : decode cX1_worstDay 33 = .ok (.iload_n 2, 1) := by decide +kernel
theorem dX1_worstDay_34 : decode cX1_worstDay 34 = .ok (.ireturn, 1) := by decide +kernel
theorem dX1_will_0 : decode cX1_will 0 = .ok (.iconst 0, 1) := by decide +kernel
theorem dX1_will_1 : decode cX1_will 1 = .ok (.istore_n 2, 1) := by decide +kernel
theorem dX1_will_2 : decode cX1_will 2 = .ok (.iconst 0, 1) := by decide +kernel
theorem dX1_will_3 : decode cX1_will 3 = .ok (.istore_n 3, 1) := by decide +kernel
theorem dX1_will_4 : decode cX1_will 4 = .ok (.iload_n 3, 1) := by decide +kernel
theorem dX1_will_5 : decode cX1_will 5 = .ok (.aload_n 0, 1) := by decide +kernel
theorem dX1_will_6 : decode cX1_will 6 = .ok (.getfield 15, 3) := by decide +kernel
theorem dX1_will_9 : decode cX1_will 9 = .ok (.if_icmp .ge 36, 3) := by decide +kernel
theorem dX1_will_12 : decode cX1_will 12 = .ok (.aload_n 0, 1) := by decide +kernel
theorem dX1_will_13 : decode cX1_will 13 = .ok (.iload_n 3, 1) := by decide +kernel
theorem dX1_will_14 : decode cX1_will 14 = .ok (.invokevirtual 19, 3) := by decide +kernel
theorem dX1_will_17 : decode cX1_will 17 = .ok (.ifCond .eq 22, 3) := by decide +kernel
theorem dX1_will_20 : decode cX1_will 20 = .ok (.aload_n 0, 1) := by decide +kernel
theorem dX1_will_21 : decode cX1_will 21 = .ok (.getfield 23, 3) := by decide +kernel
theorem dX1_will_24 : decode cX1_will 24 = .ok (.iload_n 3, 1) := by decide +kernel
theorem dX1_will_25 : decode cX1_will 25 = .ok (.iaload, 1) := by decide +kernel
theorem dX1_will_26 : decode cX1_will 26 = .ok (.iload_n 1, 1) := by decide +kernel
theorem dX1_will_27 : decode cX1_will 27 = .ok (.if_icmp .ne 12, 3) := by decide +kernel
theorem dX1_will_30 : decode cX1_will 30 = .ok (.iload_n 2, 1) := by decide +kernel
theorem dX1_will_31 : decode cX1_will 31 = .ok (.aload_n 0, 1) := by decide +kernel
theorem dX1_will_32 : decode cX1_will 32 = .ok (.getfield 27, 3) := by decide +kernel
theorem dX1_will_35 : decode cX1_will 35 = .ok (.iload_n 3, 1) := by decide +kernel
theorem dX1_will_36 : decode cX1_will 36 = .ok (.iaload, 1) := by decide +kernel
theorem dX1_will_37 : decode cX1_will 37 = .ok (.iadd, 1) := by decide +kernel
theorem dX1_will_38 : decode cX1_will 38 = .ok (.istore_n 2, 1) := by decide +kernel
theorem dX1_will_39 : decode cX1_will 39 = .ok (.iinc 3 1, 3) := by decide +kernel
theorem dX1_will_42 : decode cX1_will 42 = .ok (.goto (-38), 3) := by decide +kernel
theorem dX1_will_45 : decode cX1_will 45 = .ok (.iload_n 2, 1) := by decide +kernel
theorem dX1_will_46 : decode cX1_will 46 = .ok (.ireturn, 1) := by decide +kernel
theorem dX1_heirs_0 : decode cX1_heirs 0 = .ok (.iconst 0, 1) := by decide +kernel
theorem dX1_heirs_1 : decode cX1_heirs 1 = .ok (.istore_n 2, 1) := by decide +kernel
theorem dX1_heirs_2 : decode cX1_heirs 2 = .ok (.aload_n 0, 1) := by decide +kernel
theorem dX1_heirs_3 : decode cX1_heirs 3 = .ok (.getfield 23, 3) := by decide +kernel
theorem dX1_heirs_6 : decode cX1_heirs 6 = .ok (.iload_n 1, 1) := by decide +kernel
theorem dX1_heirs_7 : decode cX1_heirs 7 = .ok (.iaload, 1) := by decide +kernel
theorem dX1_heirs_8 : decode cX1_heirs 8 = .ok (.istore_n 3, 1) := by decide +kernel
theorem dX1_heirs_9 : decode cX1_heirs 9 = .ok (.iconst 0, 1) := by decide +kernel
theorem dX1_heirs_10 : decode cX1_heirs 10 = .ok (.istore 4, 2) := by decide +kernel
theorem dX1_heirs_12 : decode cX1_heirs 12 = .ok (.iload 4, 2) := by decide +kernel
theorem dX1_heirs_14 : decode cX1_heirs 14 = .ok (.bipush 8, 2) := by decide +kernel
theorem dX1_heirs_16 : decode cX1_heirs 16 = .ok (.if_icmp .ge 32, 3) := by decide +kernel
theorem dX1_heirs_19 : decode cX1_heirs 19 = .ok (.iload_n 3, 1) := by decide +kernel
theorem dX1_heirs_20 : decode cX1_heirs 20 = .ok (.ifCond .lt 28, 3) := by decide +kernel
theorem dX1_heirs_23 : decode cX1_heirs 23 = .ok (.iload_n 3, 1) := by decide +kernel
theorem dX1_heirs_24 : decode cX1_heirs 24 = .ok (.bipush 8, 2) := by decide +kernel
theorem dX1_heirs_26 : decode cX1_heirs 26 = .ok (.if_icmp .ge 22, 3) := by decide +kernel
theorem dX1_heirs_29 : decode cX1_heirs 29 = .ok (.iload_n 2, 1) := by decide +kernel
theorem dX1_heirs_30 : decode cX1_heirs 30 = .ok (.iconst 1, 1) := by decide +kernel
theorem dX1_heirs_31 : decode cX1_heirs 31 = .ok (.iload_n 3, 1) := by decide +kernel
theorem dX1_heirs_32 : decode cX1_heirs 32 = .ok (.ishl, 1) := by decide +kernel
theorem dX1_heirs_33 : decode cX1_heirs 33 = .ok (.ior, 1) := by decide +kernel
theorem dX1_heirs_34 : decode cX1_heirs 34 = .ok (.istore_n 2, 1) := by decide +kernel
theorem dX1_heirs_35 : decode cX1_heirs 35 = .ok (.aload_n 0, 1) := by decide +kernel
theorem dX1_heirs_36 : decode cX1_heirs 36 = .ok (.getfield 23, 3) := by decide +kernel
theorem dX1_heirs_39 : decode cX1_heirs 39 = .ok (.iload_n 3, 1) := by decide +kernel
theorem dX1_heirs_40 : decode cX1_heirs 40 = .ok (.iaload, 1) := by decide +kernel
theorem dX1_heirs_41 : decode cX1_heirs 41 = .ok (.istore_n 3, 1) := by decide +kernel
theorem dX1_heirs_42 : decode cX1_heirs 42 = .ok (.iinc 4 1, 3) := by decide +kernel
theorem dX1_heirs_45 : decode cX1_heirs 45 = .ok (.goto (-33), 3) := by decide +kernel
theorem dX1_heirs_48 : decode cX1_heirs 48 = .ok (.iload_n 2, 1) := by decide +kernel
theorem dX1_heirs_49 : decode cX1_heirs 49 = .ok (.ireturn, 1) := by decide +kernel
theorem dX1_leastBorne_0 : decode cX1_leastBorne 0 = .ok (.iconst 0, 1) := by decide +kernel
theorem dX1_leastBorne_1 : decode cX1_leastBorne 1 = .ok (.istore_n 3, 1) := by decide +kernel
theorem dX1_leastBorne_2 : decode cX1_leastBorne 2 = .ok (.aload_n 0, 1) := by decide +kernel
theorem dX1_leastBorne_3 : decode cX1_leastBorne 3 = .ok (.getfield 27, 3) := by decide +kernel
theorem dX1_leastBorne_6 : decode cX1_leastBorne 6 = .ok (.iload_n 1, 1) := by decide +kernel
theorem dX1_leastBorne_7 : decode cX1_leastBorne 7 = .ok (.iaload, 1) := by decide +kernel
theorem dX1_leastBorne_8 : decode cX1_leastBorne 8 = .ok (.ifCond .ne 7, 3) := by decide +kernel
theorem dX1_leastBorne_11 : decode cX1_leastBorne 11 = .ok (.iconst 0, 1) := by decide +kernel
theorem dX1_leastBorne_12 : decode cX1_leastBorne 12 = .ok (.goto 12, 3) := by decide +kernel
theorem dX1_leastBorne_15 : decode cX1_leastBorne 15 = .ok (.aload_n 0, 1) := by decide +kernel
theorem dX1_leastBorne_16 : decode cX1_leastBorne 16 = .ok (.getfield 27, 3) := by decide +kernel
theorem dX1_leastBorne_19 : decode cX1_leastBorne 19 = .ok (.iload_n 1, 1) := by decide +kernel
theorem dX1_leastBorne_20 : decode cX1_leastBorne 20 = .ok (.iaload, 1) := by decide +kernel
theorem dX1_leastBorne_21 : decode cX1_leastBorne 21 = .ok (.bipush 9, 2) := by decide +kernel
theorem dX1_leastBorne_23 : decode cX1_leastBorne 23 = .ok (.iadd, 1) := by decide +kernel
theorem dX1_leastBorne_24 : decode cX1_leastBorne 24 = .ok (.istore 4, 2) := by decide +kernel
theorem dX1_leastBorne_26 : decode cX1_leastBorne 26 = .ok (.iconst 0, 1) := by decide +kernel
theorem dX1_leastBorne_27 : decode cX1_leastBorne 27 = .ok (.istore 5, 2) := by decide +kernel
theorem dX1_leastBorne_29 : decode cX1_leastBorne 29 = .ok (.iload 5, 2) := by decide +kernel
theorem dX1_leastBorne_31 : decode cX1_leastBorne 31 = .ok (.bipush 32, 2) := by decide +kernel
theorem dX1_leastBorne_33 : decode cX1_leastBorne 33 = .ok (.if_icmp .ge 52, 3) := by decide +kernel
theorem dX1_leastBorne_36 : decode cX1_leastBorne 36 = .ok (.iload_n 3, 1) := by decide +kernel
theorem dX1_leastBorne_37 : decode cX1_leastBorne 37 = .ok (.iload 4, 2) := by decide +kernel
theorem dX1_leastBorne_39 : decode cX1_leastBorne 39 = .ok (.if_icmp .ge 46, 3) := by decide +kernel
theorem dX1_leastBorne_42 : decode cX1_leastBorne 42 = .ok (.iload_n 3, 1) := by decide +kernel
theorem dX1_leastBorne_43 : decode cX1_leastBorne 43 = .ok (.iload 4, 2) := by decide +kernel
theorem dX1_leastBorne_45 : decode cX1_leastBorne 45 = .ok (.iadd, 1) := by decide +kernel
theorem dX1_leastBorne_46 : decode cX1_leastBorne 46 = .ok (.iconst 2, 1) := by decide +kernel
theorem dX1_leastBorne_47 : decode cX1_leastBorne 47 = .ok (.idiv, 1) := by decide +kernel
theorem dX1_leastBorne_48 : decode cX1_leastBorne 48 = .ok (.istore 6, 2) := by decide +kernel
theorem dX1_leastBorne_50 : decode cX1_leastBorne 50 = .ok (.aload_n 0, 1) := by decide +kernel
theorem dX1_leastBorne_51 : decode cX1_leastBorne 51 = .ok (.iload_n 1, 1) := by decide +kernel
theorem dX1_leastBorne_52 : decode cX1_leastBorne 52 = .ok (.iload_n 2, 1) := by decide +kernel
theorem dX1_leastBorne_53 : decode cX1_leastBorne 53 = .ok (.iload 6, 2) := by decide +kernel
theorem dX1_leastBorne_55 : decode cX1_leastBorne 55 = .ok (.invokestatic 30, 3) := by decide +kernel
theorem dX1_leastBorne_58 : decode cX1_leastBorne 58 = .ok (.aload_n 0, 1) := by decide +kernel
theorem dX1_leastBorne_59 : decode cX1_leastBorne 59 = .ok (.getfield 27, 3) := by decide +kernel
theorem dX1_leastBorne_62 : decode cX1_leastBorne 62 = .ok (.iload_n 1, 1) := by decide +kernel
theorem dX1_leastBorne_63 : decode cX1_leastBorne 63 = .ok (.iaload, 1) := by decide +kernel
theorem dX1_leastBorne_64 : decode cX1_leastBorne 64 = .ok (.if_icmp .lt 10, 3) := by decide +kernel
theorem dX1_leastBorne_67 : decode cX1_leastBorne 67 = .ok (.iload 6, 2) := by decide +kernel
theorem dX1_leastBorne_69 : decode cX1_leastBorne 69 = .ok (.istore 4, 2) := by decide +kernel
theorem dX1_leastBorne_71 : decode cX1_leastBorne 71 = .ok (.goto 8, 3) := by decide +kernel
theorem dX1_leastBorne_74 : decode cX1_leastBorne 74 = .ok (.iload 6, 2) := by decide +kernel
theorem dX1_leastBorne_76 : decode cX1_leastBorne 76 = .ok (.iconst 1, 1) := by decide +kernel
theorem dX1_leastBorne_77 : decode cX1_leastBorne 77 = .ok (.iadd, 1) := by decide +kernel
theorem dX1_leastBorne_78 : decode cX1_leastBorne 78 = .ok (.istore_n 3, 1) := by decide +kernel
theorem dX1_leastBorne_79 : decode cX1_leastBorne 79 = .ok (.iinc 5 1, 3) := by decide +kernel
theorem dX1_leastBorne_82 : decode cX1_leastBorne 82 = .ok (.goto (-53), 3) := by decide +kernel
theorem dX1_leastBorne_85 : decode cX1_leastBorne 85 = .ok (.iload_n 3, 1) := by decide +kernel
theorem dX1_leastBorne_86 : decode cX1_leastBorne 86 = .ok (.ireturn, 1) := by decide +kernel
theorem dX1_partOn_0 : decode cX1_partOn 0 = .ok (.aload_n 0, 1) := by decide +kernel
theorem dX1_partOn_1 : decode cX1_partOn 1 = .ok (.iload_n 1, 1) := by decide +kernel
theorem dX1_partOn_2 : decode cX1_partOn 2 = .ok (.iload_n 3, 1) := by decide +kernel
theorem dX1_partOn_3 : decode cX1_partOn 3 = .ok (.iload_n 2, 1) := by decide +kernel
theorem dX1_partOn_4 : decode cX1_partOn 4 = .ok (.invokestatic 30, 3) := by decide +kernel
theorem dX1_partOn_7 : decode cX1_partOn 7 = .ok (.istore 4, 2) := by decide +kernel
theorem dX1_partOn_9 : decode cX1_partOn 9 = .ok (.aload_n 0, 1) := by decide +kernel
theorem dX1_partOn_10 : decode cX1_partOn 10 = .ok (.iload_n 1, 1) := by decide +kernel
theorem dX1_partOn_11 : decode cX1_partOn 11 = .ok (.iload_n 3, 1) := by decide +kernel
theorem dX1_partOn_12 : decode cX1_partOn 12 = .ok (.iconst 1, 1) := by decide +kernel
theorem dX1_partOn_13 : decode cX1_partOn 13 = .ok (.iadd, 1) := by decide +kernel
theorem dX1_partOn_14 : decode cX1_partOn 14 = .ok (.iload_n 2, 1) := by decide +kernel
theorem dX1_partOn_15 : decode cX1_partOn 15 = .ok (.invokestatic 30, 3) := by decide +kernel
theorem dX1_partOn_18 : decode cX1_partOn 18 = .ok (.istore 5, 2) := by decide +kernel
theorem dX1_partOn_20 : decode cX1_partOn 20 = .ok (.iload 5, 2) := by decide +kernel
theorem dX1_partOn_22 : decode cX1_partOn 22 = .ok (.aload_n 0, 1) := by decide +kernel
theorem dX1_partOn_23 : decode cX1_partOn 23 = .ok (.getfield 27, 3) := by decide +kernel
theorem dX1_partOn_26 : decode cX1_partOn 26 = .ok (.iload_n 1, 1) := by decide +kernel
theorem dX1_partOn_27 : decode cX1_partOn 27 = .ok (.iaload, 1) := by decide +kernel
theorem dX1_partOn_28 : decode cX1_partOn 28 = .ok (.invokestatic 36, 3) := by decide +kernel
theorem dX1_partOn_31 : decode cX1_partOn 31 = .ok (.iload 4, 2) := by decide +kernel
theorem dX1_partOn_33 : decode cX1_partOn 33 = .ok (.aload_n 0, 1) := by decide +kernel
theorem dX1_partOn_34 : decode cX1_partOn 34 = .ok (.getfield 27, 3) := by decide +kernel
theorem dX1_partOn_37 : decode cX1_partOn 37 = .ok (.iload_n 1, 1) := by decide +kernel
theorem dX1_partOn_38 : decode cX1_partOn 38 = .ok (.iaload, 1) := by decide +kernel
theorem dX1_partOn_39 : decode cX1_partOn 39 = .ok (.invokestatic 36, 3) := by decide +kernel
theorem dX1_partOn_42 : decode cX1_partOn 42 = .ok (.isub, 1) := by decide +kernel
theorem dX1_partOn_43 : decode cX1_partOn 43 = .ok (.ireturn, 1) := by decide +kernel
theorem dX1_interestOver_0 : decode cX1_interestOver 0 = .ok (.aload_n 0, 1) := by decide +kernel
theorem dX1_interestOver_1 : decode cX1_interestOver 1 = .ok (.getfield 27, 3) := by decide +kernel
theorem dX1_interestOver_4 : decode cX1_interestOver 4 = .ok (.iload_n 1, 1) := by decide +kernel
theorem dX1_interestOver_5 : decode cX1_interestOver 5 = .ok (.iaload, 1) := by decide +kernel
theorem dX1_interestOver_6 : decode cX1_interestOver 6 = .ok (.istore_n 3, 1) := by decide +kernel
theorem dX1_interestOver_7 : decode cX1_interestOver 7 = .ok (.iconst 0, 1) := by decide +kernel
theorem dX1_interestOver_8 : decode cX1_interestOver 8 = .ok (.istore 4, 2) := by decide +kernel
theorem dX1_interestOver_10 : decode cX1_interestOver 10 = .ok (.iload 4, 2) := by decide +kernel
theorem dX1_interestOver_12 : decode cX1_interestOver 12 = .ok (.iload_n 2, 1) := by decide +kernel
theorem dX1_interestOver_13 : decode cX1_interestOver 13 = .ok (.if_icmp .ge 29, 3) := by decide +kernel
theorem dX1_interestOver_16 : decode cX1_interestOver 16 = .ok (.aload_n 0, 1) := by decide +kernel
theorem dX1_interestOver_17 : decode cX1_interestOver 17 = .ok (.iload 4, 2) := by decide +kernel
theorem dX1_interestOver_19 : decode cX1_interestOver 19 = .ok (.invokevirtual 41, 3) := by decide +kernel
theorem dX1_interestOver_22 : decode cX1_interestOver 22 = .ok (.iconst 1, 1) := by decide +kernel
theorem dX1_interestOver_23 : decode cX1_interestOver 23 = .ok (.iadd, 1) := by decide +kernel
theorem dX1_interestOver_24 : decode cX1_interestOver 24 = .ok (.bipush 10, 2) := by decide +kernel
theorem dX1_interestOver_26 : decode cX1_interestOver 26 = .ok (.irem, 1) := by decide +kernel
theorem dX1_interestOver_27 : decode cX1_interestOver 27 = .ok (.ifCond .ne 9, 3) := by decide +kernel
theorem dX1_interestOver_30 : decode cX1_interestOver 30 = .ok (.aload_n 0, 1) := by decide +kernel
theorem dX1_interestOver_31 : decode cX1_interestOver 31 = .ok (.iload_n 3, 1) := by decide +kernel
theorem dX1_interestOver_32 : decode cX1_interestOver 32 = .ok (.invokevirtual 45, 3) := by decide +kernel
theorem dX1_interestOver_35 : decode cX1_interestOver 35 = .ok (.istore_n 3, 1) := by decide +kernel
theorem dX1_interestOver_36 : decode cX1_interestOver 36 = .ok (.iinc 4 1, 3) := by decide +kernel
theorem dX1_interestOver_39 : decode cX1_interestOver 39 = .ok (.goto (-29), 3) := by decide +kernel
theorem dX1_interestOver_42 : decode cX1_interestOver 42 = .ok (.iload_n 3, 1) := by decide +kernel
theorem dX1_interestOver_43 : decode cX1_interestOver 43 = .ok (.aload_n 0, 1) := by decide +kernel
theorem dX1_interestOver_44 : decode cX1_interestOver 44 = .ok (.getfield 27, 3) := by decide +kernel
theorem dX1_interestOver_47 : decode cX1_interestOver 47 = .ok (.iload_n 1, 1) := by decide +kernel
theorem dX1_interestOver_48 : decode cX1_interestOver 48 = .ok (.iaload, 1) := by decide +kernel
theorem dX1_interestOver_49 : decode cX1_interestOver 49 = .ok (.isub, 1) := by decide +kernel
theorem dX1_interestOver_50 : decode cX1_interestOver 50 = .ok (.ireturn, 1) := by decide +kernel
theorem dX1_roomOfTwo_0 : decode cX1_roomOfTwo 0 = .ok (.aload_n 0, 1) := by decide +kernel
theorem dX1_roomOfTwo_1 : decode cX1_roomOfTwo 1 = .ok (.getfield 48, 3) := by decide +kernel
theorem dX1_roomOfTwo_4 : decode cX1_roomOfTwo 4 = .ok (.iload_n 1, 1) := by decide +kernel
theorem dX1_roomOfTwo_5 : decode cX1_roomOfTwo 5 = .ok (.iaload, 1) := by decide +kernel
theorem dX1_roomOfTwo_6 : decode cX1_roomOfTwo 6 = .ok (.aload_n 0, 1) := by decide +kernel
theorem dX1_roomOfTwo_7 : decode cX1_roomOfTwo 7 = .ok (.getfield 48, 3) := by decide +kernel
theorem dX1_roomOfTwo_10 : decode cX1_roomOfTwo 10 = .ok (.iload_n 2, 1) := by decide +kernel
theorem dX1_roomOfTwo_11 : decode cX1_roomOfTwo 11 = .ok (.iaload, 1) := by decide +kernel
theorem dX1_roomOfTwo_12 : decode cX1_roomOfTwo 12 = .ok (.iadd, 1) := by decide +kernel
theorem dX1_roomOfTwo_13 : decode cX1_roomOfTwo 13 = .ok (.aload_n 0, 1) := by decide +kernel
theorem dX1_roomOfTwo_14 : decode cX1_roomOfTwo 14 = .ok (.iload_n 1, 1) := by decide +kernel
theorem dX1_roomOfTwo_15 : decode cX1_roomOfTwo 15 = .ok (.iload_n 3, 1) := by decide +kernel
theorem dX1_roomOfTwo_16 : decode cX1_roomOfTwo 16 = .ok (.invokevirtual 9, 3) := by decide +kernel
theorem dX1_roomOfTwo_19 : decode cX1_roomOfTwo 19 = .ok (.isub, 1) := by decide +kernel
theorem dX1_roomOfTwo_20 : decode cX1_roomOfTwo 20 = .ok (.aload_n 0, 1) := by decide +kernel
theorem dX1_roomOfTwo_21 : decode cX1_roomOfTwo 21 = .ok (.iload_n 2, 1) := by decide +kernel
theorem dX1_roomOfTwo_22 : decode cX1_roomOfTwo 22 = .ok (.iload_n 3, 1) := by decide +kernel
theorem dX1_roomOfTwo_23 : decode cX1_roomOfTwo 23 = .ok (.invokevirtual 9, 3) := by decide +kernel
theorem dX1_roomOfTwo_26 : decode cX1_roomOfTwo 26 = .ok (.isub, 1) := by decide +kernel
theorem dX1_roomOfTwo_27 : decode cX1_roomOfTwo 27 = .ok (.ireturn, 1) := by decide +kernel
theorem dX1_daysOfTwo_0 : decode cX1_daysOfTwo 0 = .ok (.aload_n 0, 1) := by decide +kernel
theorem dX1_daysOfTwo_1 : decode cX1_daysOfTwo 1 = .ok (.getfield 27, 3) := by decide +kernel
theorem dX1_daysOfTwo_4 : decode cX1_daysOfTwo 4 = .ok (.iload_n 1, 1) := by decide +kernel
theorem dX1_daysOfTwo_5 : decode cX1_daysOfTwo 5 = .ok (.iaload, 1) := by decide +kernel
theorem dX1_daysOfTwo_6 : decode cX1_daysOfTwo 6 = .ok (.aload_n 0, 1) := by decide +kernel
theorem dX1_daysOfTwo_7 : decode cX1_daysOfTwo 7 = .ok (.getfield 27, 3) := by decide +kernel
theorem dX1_daysOfTwo_10 : decode cX1_daysOfTwo 10 = .ok (.iload_n 2, 1) := by decide +kernel
theorem dX1_daysOfTwo_11 : decode cX1_daysOfTwo 11 = .ok (.iaload, 1) := by decide +kernel
theorem dX1_daysOfTwo_12 : decode cX1_daysOfTwo 12 = .ok (.iadd, 1) := by decide +kernel
theorem dX1_daysOfTwo_13 : decode cX1_daysOfTwo 13 = .ok (.istore_n 3, 1) := by decide +kernel
theorem dX1_daysOfTwo_14 : decode cX1_daysOfTwo 14 = .ok (.iconst 0, 1) := by decide +kernel
theorem dX1_daysOfTwo_15 : decode cX1_daysOfTwo 15 = .ok (.istore 4, 2) := by decide +kernel
theorem dX1_daysOfTwo_17 : decode cX1_daysOfTwo 17 = .ok (.iload 4, 2) := by decide +kernel
theorem dX1_daysOfTwo_19 : decode cX1_daysOfTwo 19 = .ok (.bipush 40, 2) := by decide +kernel
theorem dX1_daysOfTwo_21 : decode cX1_daysOfTwo 21 = .ok (.if_icmp .gt 35, 3) := by decide +kernel
theorem dX1_daysOfTwo_24 : decode cX1_daysOfTwo 24 = .ok (.iload_n 3, 1) := by decide +kernel
theorem dX1_daysOfTwo_25 : decode cX1_daysOfTwo 25 = .ok (.ifCond .gt 6, 3) := by decide +kernel
theorem dX1_daysOfTwo_28 : decode cX1_daysOfTwo 28 = .ok (.iload 4, 2) := by decide +kernel
theorem dX1_daysOfTwo_30 : decode cX1_daysOfTwo 30 = .ok (.ireturn, 1) := by decide +kernel
theorem dX1_daysOfTwo_31 : decode cX1_daysOfTwo 31 = .ok (.iload_n 3, 1) := by decide +kernel
theorem dX1_daysOfTwo_32 : decode cX1_daysOfTwo 32 = .ok (.iconst 0, 1) := by decide +kernel
theorem dX1_daysOfTwo_33 : decode cX1_daysOfTwo 33 = .ok (.aload_n 0, 1) := by decide +kernel
theorem dX1_daysOfTwo_34 : decode cX1_daysOfTwo 34 = .ok (.iload_n 1, 1) := by decide +kernel
theorem dX1_daysOfTwo_35 : decode cX1_daysOfTwo 35 = .ok (.iload_n 2, 1) := by decide +kernel
theorem dX1_daysOfTwo_36 : decode cX1_daysOfTwo 36 = .ok (.aload_n 0, 1) := by decide +kernel
theorem dX1_daysOfTwo_37 : decode cX1_daysOfTwo 37 = .ok (.iload 4, 2) := by decide +kernel
theorem dX1_daysOfTwo_39 : decode cX1_daysOfTwo 39 = .ok (.invokevirtual 41, 3) := by decide +kernel
theorem dX1_daysOfTwo_42 : decode cX1_daysOfTwo 42 = .ok (.invokestatic 51, 3) := by decide +kernel
theorem dX1_daysOfTwo_45 : decode cX1_daysOfTwo 45 = .ok (.invokestatic 54, 3) := by decide +kernel
theorem dX1_daysOfTwo_48 : decode cX1_daysOfTwo 48 = .ok (.isub, 1) := by decide +kernel
theorem dX1_daysOfTwo_49 : decode cX1_daysOfTwo 49 = .ok (.istore_n 3, 1) := by decide +kernel
theorem dX1_daysOfTwo_50 : decode cX1_daysOfTwo 50 = .ok (.iinc 4 1, 3) := by decide +kernel
theorem dX1_daysOfTwo_53 : decode cX1_daysOfTwo 53 = .ok (.goto (-36), 3) := by decide +kernel
theorem dX1_daysOfTwo_56 : decode cX1_daysOfTwo 56 = .ok (.iconst (-1), 1) := by decide +kernel
theorem dX1_daysOfTwo_57 : decode cX1_daysOfTwo 57 = .ok (.ireturn, 1) := by decide +kernel
theorem dX1_roomUnder_0 : decode cX1_roomUnder 0 = .ok (.iconst 0, 1) := by decide +kernel
theorem dX1_roomUnder_1 : decode cX1_roomUnder 1 = .ok (.istore 4, 2) := by decide +kernel
theorem dX1_roomUnder_3 : decode cX1_roomUnder 3 = .ok (.iconst 0, 1) := by decide +kernel
theorem dX1_roomUnder_4 : decode cX1_roomUnder 4 = .ok (.istore 5, 2) := by decide +kernel
theorem dX1_roomUnder_6 : decode cX1_roomUnder 6 = .ok (.iload 5, 2) := by decide +kernel
theorem dX1_roomUnder_8 : decode cX1_roomUnder 8 = .ok (.iload_n 2, 1) := by decide +kernel
theorem dX1_roomUnder_9 : decode cX1_roomUnder 9 = .ok (.if_icmp .ge 31, 3) := by decide +kernel
theorem dX1_roomUnder_12 : decode cX1_roomUnder 12 = .ok (.iload 4, 2) := by decide +kernel
theorem dX1_roomUnder_14 : decode cX1_roomUnder 14 = .ok (.iconst 0, 1) := by decide +kernel
theorem dX1_roomUnder_15 : decode cX1_roomUnder 15 = .ok (.iload_n 3, 1) := by decide +kernel
theorem dX1_roomUnder_16 : decode cX1_roomUnder 16 = .ok (.aload_n 0, 1) := by decide +kernel
theorem dX1_roomUnder_17 : decode cX1_roomUnder 17 = .ok (.iload_n 1, 1) := by decide +kernel
theorem dX1_roomUnder_18 : decode cX1_roomUnder 18 = .ok (.aload_n 0, 1) := by decide +kernel
theorem dX1_roomUnder_19 : decode cX1_roomUnder 19 = .ok (.iload 5, 2) := by decide +kernel
theorem dX1_roomUnder_21 : decode cX1_roomUnder 21 = .ok (.invokevirtual 41, 3) := by decide +kernel
theorem dX1_roomUnder_24 : decode cX1_roomUnder 24 = .ok (.invokevirtual 9, 3) := by decide +kernel
theorem dX1_roomUnder_27 : decode cX1_roomUnder 27 = .ok (.isub, 1) := by decide +kernel
theorem dX1_roomUnder_28 : decode cX1_roomUnder 28 = .ok (.invokestatic 54, 3) := by decide +kernel
theorem dX1_roomUnder_31 : decode cX1_roomUnder 31 = .ok (.iadd, 1) := by decide +kernel
theorem dX1_roomUnder_32 : decode cX1_roomUnder 32 = .ok (.istore 4, 2) := by decide +kernel
theorem dX1_roomUnder_34 : decode cX1_roomUnder 34 = .ok (.iinc 5 1, 3) := by decide +kernel
theorem dX1_roomUnder_37 : decode cX1_roomUnder 37 = .ok (.goto (-31), 3) := by decide +kernel
theorem dX1_roomUnder_40 : decode cX1_roomUnder 40 = .ok (.iload 4, 2) := by decide +kernel
theorem dX1_roomUnder_42 : decode cX1_roomUnder 42 = .ok (.ireturn, 1) := by decide +kernel
theorem dX2_init_0 : decode cX2_init 0 = .ok (.aload_n 0, 1) := by decide +kernel
theorem dX2_init_1 : decode cX2_init 1 = .ok (.invokespecial 3, 3) := by decide +kernel
theorem dX2_init_4 : decode cX2_init 4 = .ok (.aload_n 0, 1) := by decide +kernel
theorem dX2_init_5 : decode cX2_init 5 = .ok (.bipush 8, 2) := by decide +kernel
theorem dX2_init_7 : decode cX2_init 7 = .ok (.newarray .int, 2) := by decide +kernel
theorem dX2_init_9 : decode cX2_init 9 = .ok (.putfield 9, 3) := by decide +kernel
theorem dX2_init_12 : decode cX2_init 12 = .ok (.aload_n 0, 1) := by decide +kernel
theorem dX2_init_13 : decode cX2_init 13 = .ok (.bipush 8, 2) := by decide +kernel
theorem dX2_init_15 : decode cX2_init 15 = .ok (.newarray .int, 2) := by decide +kernel
theorem dX2_init_17 : decode cX2_init 17 = .ok (.putfield 15, 3) := by decide +kernel
theorem dX2_init_20 : decode cX2_init 20 = .ok (.aload_n 0, 1) := by decide +kernel
theorem dX2_init_21 : decode cX2_init 21 = .ok (.bipush 8, 2) := by decide +kernel
theorem dX2_init_23 : decode cX2_init 23 = .ok (.newarray .int, 2) := by decide +kernel
theorem dX2_init_25 : decode cX2_init 25 = .ok (.putfield 18, 3) := by decide +kernel
theorem dX2_init_28 : decode cX2_init 28 = .ok (.aload_n 0, 1) := by decide +kernel
theorem dX2_init_29 : decode cX2_init 29 = .ok (.bipush 8, 2) := by decide +kernel
theorem dX2_init_31 : decode cX2_init 31 = .ok (.newarray .int, 2) := by decide +kernel
theorem dX2_init_33 : decode cX2_init 33 = .ok (.putfield 21, 3) := by decide +kernel
theorem dX2_init_36 : decode cX2_init 36 = .ok (.aload_n 0, 1) := by decide +kernel
theorem dX2_init_37 : decode cX2_init 37 = .ok (.bipush 64, 2) := by decide +kernel
theorem dX2_init_39 : decode cX2_init 39 = .ok (.newarray .int, 2) := by decide +kernel
theorem dX2_init_41 : decode cX2_init 41 = .ok (.putfield 24, 3) := by decide +kernel
theorem dX2_init_44 : decode cX2_init 44 = .ok (.return_, 1) := by decide +kernel
theorem dX2_pass_0 : decode cX2_pass 0 = .ok (.aload_n 0, 1) := by decide +kernel
theorem dX2_pass_1 : decode cX2_pass 1 = .ok (.aload_n 1, 1) := by decide +kernel
theorem dX2_pass_2 : decode cX2_pass 2 = .ok (.getfield 27, 3) := by decide +kernel
theorem dX2_pass_5 : decode cX2_pass 5 = .ok (.putfield 33, 3) := by decide +kernel
theorem dX2_pass_8 : decode cX2_pass 8 = .ok (.aload_n 0, 1) := by decide +kernel
theorem dX2_pass_9 : decode cX2_pass 9 = .ok (.iload_n 2, 1) := by decide +kernel
theorem dX2_pass_10 : decode cX2_pass 10 = .ok (.ifCond .eq 18, 3) := by decide +kernel
theorem dX2_pass_13 : decode cX2_pass 13 = .ok (.aload_n 1, 1) := by decide +kernel
theorem dX2_pass_14 : decode cX2_pass 14 = .ok (.aload_n 1, 1) := by decide +kernel
theorem dX2_pass_15 : decode cX2_pass 15 = .ok (.getfield 34, 3) := by decide +kernel
theorem dX2_pass_18 : decode cX2_pass 18 = .ok (.invokestatic 37, 3) := by decide +kernel
theorem dX2_pass_21 : decode cX2_pass 21 = .ok (.ifCond .eq 7, 3) := by decide +kernel
theorem dX2_pass_24 : decode cX2_pass 24 = .ok (.iconst 1, 1) := by decide +kernel
theorem dX2_pass_25 : decode cX2_pass 25 = .ok (.goto 4, 3) := by decide +kernel
theorem dX2_pass_28 : decode cX2_pass 28 = .ok (.iconst 0, 1) := by decide +kernel
theorem dX2_pass_29 : decode cX2_pass 29 = .ok (.putfield 41, 3) := by decide +kernel
theorem dX2_pass_32 : decode cX2_pass 32 = .ok (.iconst 0, 1) := by decide +kernel
theorem dX2_pass_33 : decode cX2_pass 33 = .ok (.istore_n 3, 1) := by decide +kernel
theorem dX2_pass_34 : decode cX2_pass 34 = .ok (.iload_n 3, 1) := by decide +kernel
theorem dX2_pass_35 : decode cX2_pass 35 = .ok (.aload_n 1, 1) := by decide +kernel
theorem dX2_pass_36 : decode cX2_pass 36 = .ok (.getfield 45, 3) := by decide +kernel
theorem dX2_pass_39 : decode cX2_pass 39 = .ok (.if_icmp .ge 84, 3) := by decide +kernel
theorem dX2_pass_42 : decode cX2_pass 42 = .ok (.aload_n 0, 1) := by decide +kernel
theorem dX2_pass_43 : decode cX2_pass 43 = .ok (.getfield 21, 3) := by decide +kernel
theorem dX2_pass_46 : decode cX2_pass 46 = .ok (.iload_n 3, 1) := by decide +kernel
theorem dX2_pass_47 : decode cX2_pass 47 = .ok (.iconst 0, 1) := by decide +kernel
theorem dX2_pass_48 : decode cX2_pass 48 = .ok (.iastore, 1) := by decide +kernel
theorem dX2_pass_49 : decode cX2_pass 49 = .ok (.aload_n 1, 1) := by decide +kernel
theorem dX2_pass_50 : decode cX2_pass 50 = .ok (.iload_n 3, 1) := by decide +kernel
theorem dX2_pass_51 : decode cX2_pass 51 = .ok (.invokevirtual 48, 3) := by decide +kernel
theorem dX2_pass_54 : decode cX2_pass 54 = .ok (.ifCond .eq 63, 3) := by decide +kernel
theorem dX2_pass_57 : decode cX2_pass 57 = .ok (.iload_n 2, 1) := by decide +kernel
theorem dX2_pass_58 : decode cX2_pass 58 = .ok (.ifCond .eq 18, 3) := by decide +kernel
theorem dX2_pass_61 : decode cX2_pass 61 = .ok (.aload_n 1, 1) := by decide +kernel
theorem dX2_pass_62 : decode cX2_pass 62 = .ok (.aload_n 1, 1) := by decide +kernel
theorem dX2_pass_63 : decode cX2_pass 63 = .ok (.getfield 52, 3) := by decide +kernel
theorem dX2_pass_66 : decode cX2_pass 66 = .ok (.invokestatic 37, 3) := by decide +kernel
theorem dX2_pass_69 : decode cX2_pass 69 = .ok (.ifCond .eq 7, 3) := by decide +kernel
theorem dX2_pass_72 : decode cX2_pass 72 = .ok (.iconst 1, 1) := by decide +kernel
theorem dX2_pass_73 : decode cX2_pass 73 = .ok (.goto 4, 3) := by decide +kernel
theorem dX2_pass_76 : decode cX2_pass 76 = .ok (.iconst 0, 1) := by decide +kernel
theorem dX2_pass_77 : decode cX2_pass 77 = .ok (.istore 4, 2) := by decide +kernel
theorem dX2_pass_79 : decode cX2_pass 79 = .ok (.aload_n 0, 1) := by decide +kernel
theorem dX2_pass_80 : decode cX2_pass 80 = .ok (.getfield 9, 3) := by decide +kernel
theorem dX2_pass_83 : decode cX2_pass 83 = .ok (.iload_n 3, 1) := by decide +kernel
theorem dX2_pass_84 : decode cX2_pass 84 = .ok (.aload_n 1, 1) := by decide +kernel
theorem dX2_pass_85 : decode cX2_pass 85 = .ok (.iload_n 3, 1) := by decide +kernel
theorem dX2_pass_86 : decode cX2_pass 86 = .ok (.aload_n 0, 1) := by decide +kernel
theorem dX2_pass_87 : decode cX2_pass 87 = .ok (.getfield 33, 3) := by decide +kernel
theorem dX2_pass_90 : decode cX2_pass 90 = .ok (.invokevirtual 55, 3) := by decide +kernel
theorem dX2_pass_93 : decode cX2_pass 93 = .ok (.iload 4, 2) := by decide +kernel
theorem dX2_pass_95 : decode cX2_pass 95 = .ok (.ifCond .eq 7, 3) := by decide +kernel
theorem dX2_pass_98 : decode cX2_pass 98 = .ok (.iconst 5, 1) := by decide +kernel
theorem dX2_pass_99 : decode cX2_pass 99 = .ok (.goto 4, 3) := by decide +kernel
theorem dX2_pass_102 : decode cX2_pass 102 = .ok (.iconst 0, 1) := by decide +kernel
theorem dX2_pass_103 : decode cX2_pass 103 = .ok (.iadd, 1) := by decide +kernel
theorem dX2_pass_104 : decode cX2_pass 104 = .ok (.iastore, 1) := by decide +kernel
theorem dX2_pass_105 : decode cX2_pass 105 = .ok (.aload_n 0, 1) := by decide +kernel
theorem dX2_pass_106 : decode cX2_pass 106 = .ok (.aload_n 1, 1) := by decide +kernel
theorem dX2_pass_107 : decode cX2_pass 107 = .ok (.iload_n 3, 1) := by decide +kernel
theorem dX2_pass_108 : decode cX2_pass 108 = .ok (.invokevirtual 59, 3) := by decide +kernel
theorem dX2_pass_111 : decode cX2_pass 111 = .ok (.aload_n 0, 1) := by decide +kernel
theorem dX2_pass_112 : decode cX2_pass 112 = .ok (.aload_n 1, 1) := by decide +kernel
theorem dX2_pass_113 : decode cX2_pass 113 = .ok (.iload_n 3, 1) := by decide +kernel
theorem dX2_pass_114 : decode cX2_pass 114 = .ok (.invokevirtual 63, 3) := by decide +kernel
theorem dX2_pass_117 : decode cX2_pass 117 = .ok (.iinc 3 1, 3) := by decide +kernel
theorem dX2_pass_120 : decode cX2_pass 120 = .ok (.goto (-86), 3) := by decide +kernel
theorem dX2_pass_123 : decode cX2_pass 123 = .ok (.aload_n 0, 1) := by decide +kernel
theorem dX2_pass_124 : decode cX2_pass 124 = .ok (.getfield 33, 3) := by decide +kernel
theorem dX2_pass_127 : decode cX2_pass 127 = .ok (.iconst 1, 1) := by decide +kernel
theorem dX2_pass_128 : decode cX2_pass 128 = .ok (.iadd, 1) := by decide +kernel
theorem dX2_pass_129 : decode cX2_pass 129 = .ok (.bipush 10, 2) := by decide +kernel
theorem dX2_pass_131 : decode cX2_pass 131 = .ok (.irem, 1) := by decide +kernel
theorem dX2_pass_132 : decode cX2_pass 132 = .ok (.ifCond .ne 7, 3) := by decide +kernel
theorem dX2_pass_135 : decode cX2_pass 135 = .ok (.aload_n 1, 1) := by decide +kernel
theorem dX2_pass_136 : decode cX2_pass 136 = .ok (.invokestatic 66, 3) := by decide +kernel
theorem dX2_pass_139 : decode cX2_pass 139 = .ok (.aload_n 1, 1) := by decide +kernel
theorem dX2_pass_140 : decode cX2_pass 140 = .ok (.aload_n 1, 1) := by decide +kernel
theorem dX2_pass_141 : decode cX2_pass 141 = .ok (.invokevirtual 70, 3) := by decide +kernel
theorem dX2_pass_144 : decode cX2_pass 144 = .ok (.invokevirtual 74, 3) := by decide +kernel
theorem dX2_pass_147 : decode cX2_pass 147 = .ok (.aload_n 1, 1) := by decide +kernel
theorem dX2_pass_148 : decode cX2_pass 148 = .ok (.getfield 78, 3) := by decide +kernel
theorem dX2_pass_151 : decode cX2_pass 151 = .ok (.if_icmp .le 8, 3) := by decide +kernel
theorem dX2_pass_154 : decode cX2_pass 154 = .ok (.aload_n 0, 1) := by decide +kernel
theorem dX2_pass_155 : decode cX2_pass 155 = .ok (.aload_n 1, 1) := by decide +kernel
theorem dX2_pass_156 : decode cX2_pass 156 = .ok (.invokevirtual 81, 3) := by decide +kernel
theorem dX2_pass_159 : decode cX2_pass 159 = .ok (.aload_n 1, 1) := by decide +kernel
theorem dX2_pass_160 : decode cX2_pass 160 = .ok (.aload_n 1, 1) := by decide +kernel
theorem dX2_pass_161 : decode cX2_pass 161 = .ok (.iconst 1, 1) := by decide +kernel
theorem dX2_pass_162 : decode cX2_pass 162 = .ok (.invokevirtual 84, 3) := by decide +kernel
theorem dX2_pass_165 : decode cX2_pass 165 = .ok (.putfield 27, 3) := by decide +kernel
theorem dX2_pass_168 : decode cX2_pass 168 = .ok (.aload_n 0, 1) := by decide +kernel
theorem dX2_pass_169 : decode cX2_pass 169 = .ok (.aload_n 1, 1) := by decide +kernel
theorem dX2_pass_170 : decode cX2_pass 170 = .ok (.invokevirtual 87, 3) := by decide +kernel
theorem dX2_pass_173 : decode cX2_pass 173 = .ok (.ireturn, 1) := by decide +kernel
theorem dX2_firstOver_0 : decode cX2_firstOver 0 = .ok (.iconst 0, 1) := by decide +kernel
theorem dX2_firstOver_1 : decode cX2_firstOver 1 = .ok (.istore_n 2, 1) := by decide +kernel
theorem dX2_firstOver_2 : decode cX2_firstOver 2 = .ok (.iload_n 2, 1) := by decide +kernel
theorem dX2_firstOver_3 : decode cX2_firstOver 3 = .ok (.aload_n 1, 1) := by decide +kernel
theorem dX2_firstOver_4 : decode cX2_firstOver 4 = .ok (.getfield 45, 3) := by decide +kernel
theorem dX2_firstOver_7 : decode cX2_firstOver 7 = .ok (.if_icmp .ge 26, 3) := by decide +kernel
theorem dX2_firstOver_10 : decode cX2_firstOver 10 = .ok (.aload_n 0, 1) := by decide +kernel
theorem dX2_firstOver_11 : decode cX2_firstOver 11 = .ok (.getfield 21, 3) := by decide +kernel
theorem dX2_firstOver_14 : decode cX2_firstOver 14 = .ok (.iload_n 2, 1) := by decide +kernel
theorem dX2_firstOver_15 : decode cX2_firstOver 15 = .ok (.iaload, 1) := by decide +kernel
theorem dX2_firstOver_16 : decode cX2_firstOver 16 = .ok (.aload_n 1, 1) := by decide +kernel
theorem dX2_firstOver_17 : decode cX2_firstOver 17 = .ok (.getfield 91, 3) := by decide +kernel
theorem dX2_firstOver_20 : decode cX2_firstOver 20 = .ok (.iload_n 2, 1) := by decide +kernel
theorem dX2_firstOver_21 : decode cX2_firstOver 21 = .ok (.iaload, 1) := by decide +kernel
theorem dX2_firstOver_22 : decode cX2_firstOver 22 = .ok (.if_icmp .le 5, 3) := by decide +kernel
theorem dX2_firstOver_25 : decode cX2_firstOver 25 = .ok (.iload_n 2, 1) := by decide +kernel
theorem dX2_firstOver_26 : decode cX2_firstOver 26 = .ok (.ireturn, 1) := by decide +kernel
theorem dX2_firstOver_27 : decode cX2_firstOver 27 = .ok (.iinc 2 1, 3) := by decide +kernel
theorem dX2_firstOver_30 : decode cX2_firstOver 30 = .ok (.goto (-28), 3) := by decide +kernel
theorem dX2_firstOver_33 : decode cX2_firstOver 33 = .ok (.iconst (-1), 1) := by decide +kernel
theorem dX2_firstOver_34 : decode cX2_firstOver 34 = .ok (.ireturn, 1) := by decide +kernel
theorem dX2_writeLog_0 : decode cX2_writeLog 0 = .ok (.iconst 0, 1) := by decide +kernel
theorem dX2_writeLog_1 : decode cX2_writeLog 1 = .ok (.istore_n 3, 1) := by decide +kernel
theorem dX2_writeLog_2 : decode cX2_writeLog 2 = .ok (.iload_n 3, 1) := by decide +kernel
theorem dX2_writeLog_3 : decode cX2_writeLog 3 = .ok (.aload_n 1, 1) := by decide +kernel
theorem dX2_writeLog_4 : decode cX2_writeLog 4 = .ok (.getfield 45, 3) := by decide +kernel
theorem dX2_writeLog_7 : decode cX2_writeLog 7 = .ok (.if_icmp .ge 45, 3) := by decide +kernel
theorem dX2_writeLog_10 : decode cX2_writeLog 10 = .ok (.aload_n 0, 1) := by decide +kernel
theorem dX2_writeLog_11 : decode cX2_writeLog 11 = .ok (.getfield 21, 3) := by decide +kernel
theorem dX2_writeLog_14 : decode cX2_writeLog 14 = .ok (.iload_n 3, 1) := by decide +kernel
theorem dX2_writeLog_15 : decode cX2_writeLog 15 = .ok (.iaload, 1) := by decide +kernel
theorem dX2_writeLog_16 : decode cX2_writeLog 16 = .ok (.aload_n 1, 1) := by decide +kernel
theorem dX2_writeLog_17 : decode cX2_writeLog 17 = .ok (.getfield 91, 3) := by decide +kernel
theorem dX2_writeLog_20 : decode cX2_writeLog 20 = .ok (.iload_n 3, 1) := by decide +kernel
theorem dX2_writeLog_21 : decode cX2_writeLog 21 = .ok (.iaload, 1) := by decide +kernel
theorem dX2_writeLog_22 : decode cX2_writeLog 22 = .ok (.if_icmp .le 24, 3) := by decide +kernel
theorem dX2_writeLog_25 : decode cX2_writeLog 25 = .ok (.aload_n 1, 1) := by decide +kernel
theorem dX2_writeLog_26 : decode cX2_writeLog 26 = .ok (.getfield 94, 3) := by decide +kernel
theorem dX2_writeLog_29 : decode cX2_writeLog 29 = .ok (.iload_n 2, 1) := by decide +kernel
theorem dX2_writeLog_30 : decode cX2_writeLog 30 = .ok (.iload_n 3, 1) := by decide +kernel
theorem dX2_writeLog_31 : decode cX2_writeLog 31 = .ok (.aload_n 0, 1) := by decide +kernel
theorem dX2_writeLog_32 : decode cX2_writeLog 32 = .ok (.getfield 21, 3) := by decide +kernel
theorem dX2_writeLog_35 : decode cX2_writeLog 35 = .ok (.iload_n 3, 1) := by decide +kernel
theorem dX2_writeLog_36 : decode cX2_writeLog 36 = .ok (.iaload, 1) := by decide +kernel
theorem dX2_writeLog_37 : decode cX2_writeLog 37 = .ok (.aload_n 1, 1) := by decide +kernel
theorem dX2_writeLog_38 : decode cX2_writeLog 38 = .ok (.getfield 91, 3) := by decide +kernel
theorem dX2_writeLog_41 : decode cX2_writeLog 41 = .ok (.iload_n 3, 1) := by decide +kernel
theorem dX2_writeLog_42 : decode cX2_writeLog 42 = .ok (.iaload, 1) := by decide +kernel
theorem dX2_writeLog_43 : decode cX2_writeLog 43 = .ok (.invokevirtual 98, 3) := by decide +kernel
theorem dX2_writeLog_46 : decode cX2_writeLog 46 = .ok (.iinc 3 1, 3) := by decide +kernel
theorem dX2_writeLog_49 : decode cX2_writeLog 49 = .ok (.goto (-47), 3) := by decide +kernel
theorem dX2_writeLog_52 : decode cX2_writeLog 52 = .ok (.return_, 1) := by decide +kernel
theorem dX2_valueOf_0 : decode cX2_valueOf 0 = .ok (.iload_n 1, 1) := by decide +kernel
theorem dX2_valueOf_1 : decode cX2_valueOf 1 = .ok (.tableswitch 124 1000 1006 #[43, 48, 78, 83, 88, 93, 106], 43) := by decide +kernel
theorem dX2_valueOf_44 : decode cX2_valueOf 44 = .ok (.aload_n 0, 1) := by decide +kernel
theorem dX2_valueOf_45 : decode cX2_valueOf 45 = .ok (.getfield 104, 3) := by decide +kernel
theorem dX2_valueOf_48 : decode cX2_valueOf 48 = .ok (.ireturn, 1) := by decide +kernel
theorem dX2_valueOf_49 : decode cX2_valueOf 49 = .ok (.aload_n 0, 1) := by decide +kernel
theorem dX2_valueOf_50 : decode cX2_valueOf 50 = .ok (.getfield 104, 3) := by decide +kernel
theorem dX2_valueOf_53 : decode cX2_valueOf 53 = .ok (.ifCond .lt 24, 3) := by decide +kernel
theorem dX2_valueOf_56 : decode cX2_valueOf 56 = .ok (.aload_n 0, 1) := by decide +kernel
theorem dX2_valueOf_57 : decode cX2_valueOf 57 = .ok (.getfield 104, 3) := by decide +kernel
theorem dX2_valueOf_60 : decode cX2_valueOf 60 = .ok (.bipush 8, 2) := by decide +kernel
theorem dX2_valueOf_62 : decode cX2_valueOf 62 = .ok (.if_icmp .ge 15, 3) := by decide +kernel
theorem dX2_valueOf_65 : decode cX2_valueOf 65 = .ok (.aload_n 0, 1) := by decide +kernel
theorem dX2_valueOf_66 : decode cX2_valueOf 66 = .ok (.getfield 9, 3) := by decide +kernel
theorem dX2_valueOf_69 : decode cX2_valueOf 69 = .ok (.aload_n 0, 1) := by decide +kernel
theorem dX2_valueOf_70 : decode cX2_valueOf 70 = .ok (.getfield 104, 3) := by decide +kernel
theorem dX2_valueOf_73 : decode cX2_valueOf 73 = .ok (.iaload, 1) := by decide +kernel
theorem dX2_valueOf_74 : decode cX2_valueOf 74 = .ok (.goto 4, 3) := by decide +kernel
theorem dX2_valueOf_77 : decode cX2_valueOf 77 = .ok (.iconst 0, 1) := by decide +kernel
theorem dX2_valueOf_78 : decode cX2_valueOf 78 = .ok (.ireturn, 1) := by decide +kernel
theorem dX2_valueOf_79 : decode cX2_valueOf 79 = .ok (.aload_n 0, 1) := by decide +kernel
theorem dX2_valueOf_80 : decode cX2_valueOf 80 = .ok (.getfield 107, 3) := by decide +kernel
theorem dX2_valueOf_83 : decode cX2_valueOf 83 = .ok (.ireturn, 1) := by decide +kernel
theorem dX2_valueOf_84 : decode cX2_valueOf 84 = .ok (.aload_n 0, 1) := by decide +kernel
theorem dX2_valueOf_85 : decode cX2_valueOf 85 = .ok (.getfield 110, 3) := by decide +kernel
theorem dX2_valueOf_88 : decode cX2_valueOf 88 = .ok (.ireturn, 1) := by decide +kernel
theorem dX2_valueOf_89 : decode cX2_valueOf 89 = .ok (.aload_n 0, 1) := by decide +kernel
theorem dX2_valueOf_90 : decode cX2_valueOf 90 = .ok (.getfield 33, 3) := by decide +kernel
theorem dX2_valueOf_93 : decode cX2_valueOf 93 = .ok (.ireturn, 1) := by decide +kernel
theorem dX2_valueOf_94 : decode cX2_valueOf 94 = .ok (.aload_n 0, 1) := by decide +kernel
theorem dX2_valueOf_95 : decode cX2_valueOf 95 = .ok (.getfield 41, 3) := by decide +kernel
theorem dX2_valueOf_98 : decode cX2_valueOf 98 = .ok (.ifCond .eq 7, 3) := by decide +kernel
theorem dX2_valueOf_101 : decode cX2_valueOf 101 = .ok (.iconst 1, 1) := by decide +kernel
theorem dX2_valueOf_102 : decode cX2_valueOf 102 = .ok (.goto 4, 3) := by decide +kernel
theorem dX2_valueOf_105 : decode cX2_valueOf 105 = .ok (.iconst 0, 1) := by decide +kernel
theorem dX2_valueOf_106 : decode cX2_valueOf 106 = .ok (.ireturn, 1) := by decide +kernel
theorem dX2_valueOf_107 : decode cX2_valueOf 107 = .ok (.aload_n 0, 1) := by decide +kernel
theorem dX2_valueOf_108 : decode cX2_valueOf 108 = .ok (.getfield 33, 3) := by decide +kernel
theorem dX2_valueOf_111 : decode cX2_valueOf 111 = .ok (.bipush 7, 2) := by decide +kernel
theorem dX2_valueOf_113 : decode cX2_valueOf 113 = .ok (.irem, 1) := by decide +kernel
theorem dX2_valueOf_114 : decode cX2_valueOf 114 = .ok (.bipush 6, 2) := by decide +kernel
theorem dX2_valueOf_116 : decode cX2_valueOf 116 = .ok (.if_icmp .ne 7, 3) := by decide +kernel
theorem dX2_valueOf_119 : decode cX2_valueOf 119 = .ok (.iconst 1, 1) := by decide +kernel
theorem dX2_valueOf_120 : decode cX2_valueOf 120 = .ok (.goto 4, 3) := by decide +kernel
theorem dX2_valueOf_123 : decode cX2_valueOf 123 = .ok (.iconst 0, 1) := by decide +kernel
theorem dX2_valueOf_124 : decode cX2_valueOf 124 = .ok (.ireturn, 1) := by decide +kernel
theorem dX2_valueOf_125 : decode cX2_valueOf 125 = .ok (.iload_n 1, 1) := by decide +kernel
theorem dX2_valueOf_126 : decode cX2_valueOf 126 = .ok (.ireturn, 1) := by decide +kernel
theorem dX2_drawsBelow_0 : decode cX2_drawsBelow 0 = .ok (.aload_n 0, 1) := by decide +kernel
theorem dX2_drawsBelow_1 : decode cX2_drawsBelow 1 = .ok (.ldc 112, 2) := by decide +kernel
theorem dX2_drawsBelow_3 : decode cX2_drawsBelow 3 = .ok (.aload_n 0, 1) := by decide +kernel
theorem dX2_drawsBelow_4 : decode cX2_drawsBelow 4 = .ok (.getfield 113, 3) := by decide +kernel
theorem dX2_drawsBelow_7 : decode cX2_drawsBelow 7 = .ok (.imul, 1) := by decide +kernel
theorem dX2_drawsBelow_8 : decode cX2_drawsBelow 8 = .ok (.sipush 12345, 3) := by decide +kernel
theorem dX2_drawsBelow_11 : decode cX2_drawsBelow 11 = .ok (.iadd, 1) := by decide +kernel
theorem dX2_drawsBelow_12 : decode cX2_drawsBelow 12 = .ok (.putfield 113, 3) := by decide +kernel
theorem dX2_drawsBelow_15 : decode cX2_drawsBelow 15 = .ok (.aload_n 0, 1) := by decide +kernel
theorem dX2_drawsBelow_16 : decode cX2_drawsBelow 16 = .ok (.getfield 113, 3) := by decide +kernel
theorem dX2_drawsBelow_19 : decode cX2_drawsBelow 19 = .ok (.bipush 16, 2) := by decide +kernel
theorem dX2_drawsBelow_21 : decode cX2_drawsBelow 21 = .ok (.iushr, 1) := by decide +kernel
theorem dX2_drawsBelow_22 : decode cX2_drawsBelow 22 = .ok (.sipush 32767, 3) := by decide +kernel
theorem dX2_drawsBelow_25 : decode cX2_drawsBelow 25 = .ok (.iand, 1) := by decide +kernel
theorem dX2_drawsBelow_26 : decode cX2_drawsBelow 26 = .ok (.bipush 100, 2) := by decide +kernel
theorem dX2_drawsBelow_28 : decode cX2_drawsBelow 28 = .ok (.irem, 1) := by decide +kernel
theorem dX2_drawsBelow_29 : decode cX2_drawsBelow 29 = .ok (.iload_n 1, 1) := by decide +kernel
theorem dX2_drawsBelow_30 : decode cX2_drawsBelow 30 = .ok (.if_icmp .ge 7, 3) := by decide +kernel
theorem dX2_drawsBelow_33 : decode cX2_drawsBelow 33 = .ok (.iconst 1, 1) := by decide +kernel
theorem dX2_drawsBelow_34 : decode cX2_drawsBelow 34 = .ok (.goto 4, 3) := by decide +kernel
theorem dX2_drawsBelow_37 : decode cX2_drawsBelow 37 = .ok (.iconst 0, 1) := by decide +kernel
theorem dX2_drawsBelow_38 : decode cX2_drawsBelow 38 = .ok (.ireturn, 1) := by decide +kernel
theorem dX2_decide_0 : decode cX2_decide 0 = .ok (.aload_n 0, 1) := by decide +kernel
theorem dX2_decide_1 : decode cX2_decide 1 = .ok (.iload_n 2, 1) := by decide +kernel
theorem dX2_decide_2 : decode cX2_decide 2 = .ok (.putfield 104, 3) := by decide +kernel
theorem dX2_decide_5 : decode cX2_decide 5 = .ok (.aload_n 0, 1) := by decide +kernel
theorem dX2_decide_6 : decode cX2_decide 6 = .ok (.aload_n 1, 1) := by decide +kernel
theorem dX2_decide_7 : decode cX2_decide 7 = .ok (.getfield 91, 3) := by decide +kernel
theorem dX2_decide_10 : decode cX2_decide 10 = .ok (.iload_n 2, 1) := by decide +kernel
theorem dX2_decide_11 : decode cX2_decide 11 = .ok (.iaload, 1) := by decide +kernel
theorem dX2_decide_12 : decode cX2_decide 12 = .ok (.putfield 110, 3) := by decide +kernel
theorem dX2_decide_15 : decode cX2_decide 15 = .ok (.aload_n 0, 1) := by decide +kernel
theorem dX2_decide_16 : decode cX2_decide 16 = .ok (.aload_n 1, 1) := by decide +kernel
theorem dX2_decide_17 : decode cX2_decide 17 = .ok (.getfield 116, 3) := by decide +kernel
theorem dX2_decide_20 : decode cX2_decide 20 = .ok (.iload_n 2, 1) := by decide +kernel
theorem dX2_decide_21 : decode cX2_decide 21 = .ok (.iaload, 1) := by decide +kernel
theorem dX2_decide_22 : decode cX2_decide 22 = .ok (.putfield 107, 3) := by decide +kernel
theorem dX2_decide_25 : decode cX2_decide 25 = .ok (.aload_n 0, 1) := by decide +kernel
theorem dX2_decide_26 : decode cX2_decide 26 = .ok (.getfield 9, 3) := by decide +kernel
theorem dX2_decide_29 : decode cX2_decide 29 = .ok (.iload_n 2, 1) := by decide +kernel
theorem dX2_decide_30 : decode cX2_decide 30 = .ok (.iaload, 1) := by decide +kernel
theorem dX2_decide_31 : decode cX2_decide 31 = .ok (.aload_n 0, 1) := by decide +kernel
theorem dX2_decide_32 : decode cX2_decide 32 = .ok (.getfield 110, 3) := by decide +kernel
theorem dX2_decide_35 : decode cX2_decide 35 = .ok (.isub, 1) := by decide +kernel
theorem dX2_decide_36 : decode cX2_decide 36 = .ok (.istore_n 3, 1) := by decide +kernel
theorem dX2_decide_37 : decode cX2_decide 37 = .ok (.aload_n 0, 1) := by decide +kernel
theorem dX2_decide_38 : decode cX2_decide 38 = .ok (.getfield 110, 3) := by decide +kernel
theorem dX2_decide_41 : decode cX2_decide 41 = .ok (.aload_n 0, 1) := by decide +kernel
theorem dX2_decide_42 : decode cX2_decide 42 = .ok (.getfield 9, 3) := by decide +kernel
theorem dX2_decide_45 : decode cX2_decide 45 = .ok (.iload_n 2, 1) := by decide +kernel
theorem dX2_decide_46 : decode cX2_decide 46 = .ok (.iaload, 1) := by decide +kernel
theorem dX2_decide_47 : decode cX2_decide 47 = .ok (.isub, 1) := by decide +kernel
theorem dX2_decide_48 : decode cX2_decide 48 = .ok (.istore 4, 2) := by decide +kernel
theorem dX2_decide_50 : decode cX2_decide 50 = .ok (.aload_n 1, 1) := by decide +kernel
theorem dX2_decide_51 : decode cX2_decide 51 = .ok (.getfield 118, 3) := by decide +kernel
theorem dX2_decide_54 : decode cX2_decide 54 = .ok (.ifCond .eq 11, 3) := by decide +kernel
theorem dX2_decide_57 : decode cX2_decide 57 = .ok (.iconst 0, 1) := by decide +kernel
theorem dX2_decide_58 : decode cX2_decide 58 = .ok (.istore_n 3, 1) := by decide +kernel
theorem dX2_decide_59 : decode cX2_decide 59 = .ok (.iconst 0, 1) := by decide +kernel
theorem dX2_decide_60 : decode cX2_decide 60 = .ok (.istore 4, 2) := by decide +kernel
theorem dX2_decide_62 : decode cX2_decide 62 = .ok (.goto 31, 3) := by decide +kernel
theorem dX2_decide_65 : decode cX2_decide 65 = .ok (.aload_n 1, 1) := by decide +kernel
theorem dX2_decide_66 : decode cX2_decide 66 = .ok (.getfield 121, 3) := by decide +kernel
theorem dX2_decide_69 : decode cX2_decide 69 = .ok (.ifnull 24, 3) := by decide +kernel
theorem dX2_decide_72 : decode cX2_decide 72 = .ok (.aload_n 1, 1) := by decide +kernel
theorem dX2_decide_73 : decode cX2_decide 73 = .ok (.getfield 121, 3) := by decide +kernel
theorem dX2_decide_76 : decode cX2_decide 76 = .ok (.iconst 0, 1) := by decide +kernel
theorem dX2_decide_77 : decode cX2_decide 77 = .ok (.aload_n 0, 1) := by decide +kernel
theorem dX2_decide_78 : decode cX2_decide 78 = .ok (.invokevirtual 125, 3) := by decide +kernel
theorem dX2_decide_81 : decode cX2_decide 81 = .ok (.istore_n 3, 1) := by decide +kernel
theorem dX2_decide_82 : decode cX2_decide 82 = .ok (.aload_n 1, 1) := by decide +kernel
theorem dX2_decide_83 : decode cX2_decide 83 = .ok (.getfield 121, 3) := by decide +kernel
theorem dX2_decide_86 : decode cX2_decide 86 = .ok (.iconst 1, 1) := by decide +kernel
theorem dX2_decide_87 : decode cX2_decide 87 = .ok (.aload_n 0, 1) := by decide +kernel
theorem dX2_decide_88 : decode cX2_decide 88 = .ok (.invokevirtual 125, 3) := by decide +kernel
theorem dX2_decide_91 : decode cX2_decide 91 = .ok (.istore 4, 2) := by decide +kernel
theorem dX2_decide_93 : decode cX2_decide 93 = .ok (.aload_n 0, 1) := by decide +kernel
theorem dX2_decide_94 : decode cX2_decide 94 = .ok (.getfield 15, 3) := by decide +kernel
theorem dX2_decide_97 : decode cX2_decide 97 = .ok (.iload_n 2, 1) := by decide +kernel
theorem dX2_decide_98 : decode cX2_decide 98 = .ok (.iconst 0, 1) := by decide +kernel
theorem dX2_decide_99 : decode cX2_decide 99 = .ok (.iload_n 3, 1) := by decide +kernel
theorem dX2_decide_100 : decode cX2_decide 100 = .ok (.aload_n 0, 1) := by decide +kernel
theorem dX2_decide_101 : decode cX2_decide 101 = .ok (.getfield 9, 3) := by decide +kernel
theorem dX2_decide_104 : decode cX2_decide 104 = .ok (.iload_n 2, 1) := by decide +kernel
theorem dX2_decide_105 : decode cX2_decide 105 = .ok (.iaload, 1) := by decide +kernel
theorem dX2_decide_106 : decode cX2_decide 106 = .ok (.invokestatic 131, 3) := by decide +kernel
theorem dX2_decide_109 : decode cX2_decide 109 = .ok (.invokestatic 136, 3) := by decide +kernel
theorem dX2_decide_112 : decode cX2_decide 112 = .ok (.iastore, 1) := by decide +kernel
theorem dX2_decide_113 : decode cX2_decide 113 = .ok (.aload_n 0, 1) := by decide +kernel
theorem dX2_decide_114 : decode cX2_decide 114 = .ok (.getfield 18, 3) := by decide +kernel
theorem dX2_decide_117 : decode cX2_decide 117 = .ok (.iload_n 2, 1) := by decide +kernel
theorem dX2_decide_118 : decode cX2_decide 118 = .ok (.iconst 0, 1) := by decide +kernel
theorem dX2_decide_119 : decode cX2_decide 119 = .ok (.iload 4, 2) := by decide +kernel
theorem dX2_decide_121 : decode cX2_decide 121 = .ok (.aload_n 0, 1) := by decide +kernel
theorem dX2_decide_122 : decode cX2_decide 122 = .ok (.getfield 107, 3) := by decide +kernel
theorem dX2_decide_125 : decode cX2_decide 125 = .ok (.invokestatic 131, 3) := by decide +kernel
theorem dX2_decide_128 : decode cX2_decide 128 = .ok (.invokestatic 136, 3) := by decide +kernel
theorem dX2_decide_131 : decode cX2_decide 131 = .ok (.iastore, 1) := by decide +kernel
theorem dX2_decide_132 : decode cX2_decide 132 = .ok (.return_, 1) := by decide +kernel
theorem dX2_settle_0 : decode cX2_settle 0 = .ok (.aload_n 1, 1) := by decide +kernel
theorem dX2_settle_1 : decode cX2_settle 1 = .ok (.getfield 139, 3) := by decide +kernel
theorem dX2_settle_4 : decode cX2_settle 4 = .ok (.iload_n 2, 1) := by decide +kernel
theorem dX2_settle_5 : decode cX2_settle 5 = .ok (.iaload, 1) := by decide +kernel
theorem dX2_settle_6 : decode cX2_settle 6 = .ok (.aload_n 0, 1) := by decide +kernel
theorem dX2_settle_7 : decode cX2_settle 7 = .ok (.getfield 18, 3) := by decide +kernel
theorem dX2_settle_10 : decode cX2_settle 10 = .ok (.iload_n 2, 1) := by decide +kernel
theorem dX2_settle_11 : decode cX2_settle 11 = .ok (.iaload, 1) := by decide +kernel
theorem dX2_settle_12 : decode cX2_settle 12 = .ok (.invokestatic 131, 3) := by decide +kernel
theorem dX2_settle_15 : decode cX2_settle 15 = .ok (.istore_n 3, 1) := by decide +kernel
theorem dX2_settle_16 : decode cX2_settle 16 = .ok (.aload_n 1, 1) := by decide +kernel
theorem dX2_settle_17 : decode cX2_settle 17 = .ok (.getfield 139, 3) := by decide +kernel
theorem dX2_settle_20 : decode cX2_settle 20 = .ok (.iload_n 2, 1) := by decide +kernel
theorem dX2_settle_21 : decode cX2_settle 21 = .ok (.dup2, 1) := by decide +kernel
theorem dX2_settle_22 : decode cX2_settle 22 = .ok (.iaload, 1) := by decide +kernel
theorem dX2_settle_23 : decode cX2_settle 23 = .ok (.iload_n 3, 1) := by decide +kernel
theorem dX2_settle_24 : decode cX2_settle 24 = .ok (.isub, 1) := by decide +kernel
theorem dX2_settle_25 : decode cX2_settle 25 = .ok (.iastore, 1) := by decide +kernel
theorem dX2_settle_26 : decode cX2_settle 26 = .ok (.aload_n 1, 1) := by decide +kernel
theorem dX2_settle_27 : decode cX2_settle 27 = .ok (.getfield 116, 3) := by decide +kernel
theorem dX2_settle_30 : decode cX2_settle 30 = .ok (.iload_n 2, 1) := by decide +kernel
theorem dX2_settle_31 : decode cX2_settle 31 = .ok (.iaload, 1) := by decide +kernel
theorem dX2_settle_32 : decode cX2_settle 32 = .ok (.aload_n 0, 1) := by decide +kernel
theorem dX2_settle_33 : decode cX2_settle 33 = .ok (.getfield 15, 3) := by decide +kernel
theorem dX2_settle_36 : decode cX2_settle 36 = .ok (.iload_n 2, 1) := by decide +kernel
theorem dX2_settle_37 : decode cX2_settle 37 = .ok (.iaload, 1) := by decide +kernel
theorem dX2_settle_38 : decode cX2_settle 38 = .ok (.iadd, 1) := by decide +kernel
theorem dX2_settle_39 : decode cX2_settle 39 = .ok (.aload_n 0, 1) := by decide +kernel
theorem dX2_settle_40 : decode cX2_settle 40 = .ok (.getfield 18, 3) := by decide +kernel
theorem dX2_settle_43 : decode cX2_settle 43 = .ok (.iload_n 2, 1) := by decide +kernel
theorem dX2_settle_44 : decode cX2_settle 44 = .ok (.iaload, 1) := by decide +kernel
theorem dX2_settle_45 : decode cX2_settle 45 = .ok (.isub, 1) := by decide +kernel
theorem dX2_settle_46 : decode cX2_settle 46 = .ok (.istore 4, 2) := by decide +kernel
theorem dX2_settle_48 : decode cX2_settle 48 = .ok (.iconst 0, 1) := by decide +kernel
theorem dX2_settle_49 : decode cX2_settle 49 = .ok (.iload 4, 2) := by decide +kernel
theorem dX2_settle_51 : decode cX2_settle 51 = .ok (.ldc 142, 2) := by decide +kernel
theorem dX2_settle_53 : decode cX2_settle 53 = .ok (.isub, 1) := by decide +kernel
theorem dX2_settle_54 : decode cX2_settle 54 = .ok (.invokestatic 136, 3) := by decide +kernel
theorem dX2_settle_57 : decode cX2_settle 57 = .ok (.istore 5, 2) := by decide +kernel
theorem dX2_settle_59 : decode cX2_settle 59 = .ok (.aload_n 1, 1) := by decide +kernel
theorem dX2_settle_60 : decode cX2_settle 60 = .ok (.getfield 116, 3) := by decide +kernel
theorem dX2_settle_63 : decode cX2_settle 63 = .ok (.iload_n 2, 1) := by decide +kernel
theorem dX2_settle_64 : decode cX2_settle 64 = .ok (.iload 4, 2) := by decide +kernel
theorem dX2_settle_66 : decode cX2_settle 66 = .ok (.iload 5, 2) := by decide +kernel
theorem dX2_settle_68 : decode cX2_settle 68 = .ok (.isub, 1) := by decide +kernel
theorem dX2_settle_69 : decode cX2_settle 69 = .ok (.iastore, 1) := by decide +kernel
theorem dX2_settle_70 : decode cX2_settle 70 = .ok (.aload_n 0, 1) := by decide +kernel
theorem dX2_settle_71 : decode cX2_settle 71 = .ok (.getfield 21, 3) := by decide +kernel
theorem dX2_settle_74 : decode cX2_settle 74 = .ok (.iload_n 2, 1) := by decide +kernel
theorem dX2_settle_75 : decode cX2_settle 75 = .ok (.aload_n 0, 1) := by decide +kernel
theorem dX2_settle_76 : decode cX2_settle 76 = .ok (.getfield 9, 3) := by decide +kernel
theorem dX2_settle_79 : decode cX2_settle 79 = .ok (.iload_n 2, 1) := by decide +kernel
theorem dX2_settle_80 : decode cX2_settle 80 = .ok (.iaload, 1) := by decide +kernel
theorem dX2_settle_81 : decode cX2_settle 81 = .ok (.aload_n 0, 1) := by decide +kernel
theorem dX2_settle_82 : decode cX2_settle 82 = .ok (.getfield 15, 3) := by decide +kernel
theorem dX2_settle_85 : decode cX2_settle 85 = .ok (.iload_n 2, 1) := by decide +kernel
theorem dX2_settle_86 : decode cX2_settle 86 = .ok (.iaload, 1) := by decide +kernel
theorem dX2_settle_87 : decode cX2_settle 87 = .ok (.isub, 1) := by decide +kernel
theorem dX2_settle_88 : decode cX2_settle 88 = .ok (.aload_n 0, 1) := by decide +kernel
theorem dX2_settle_89 : decode cX2_settle 89 = .ok (.getfield 18, 3) := by decide +kernel
theorem dX2_settle_92 : decode cX2_settle 92 = .ok (.iload_n 2, 1) := by decide +kernel
theorem dX2_settle_93 : decode cX2_settle 93 = .ok (.iaload, 1) := by decide +kernel
theorem dX2_settle_94 : decode cX2_settle 94 = .ok (.iadd, 1) := by decide +kernel
theorem dX2_settle_95 : decode cX2_settle 95 = .ok (.iload_n 3, 1) := by decide +kernel
theorem dX2_settle_96 : decode cX2_settle 96 = .ok (.isub, 1) := by decide +kernel
theorem dX2_settle_97 : decode cX2_settle 97 = .ok (.iload 5, 2) := by decide +kernel
theorem dX2_settle_99 : decode cX2_settle 99 = .ok (.iadd, 1) := by decide +kernel
theorem dX2_settle_100 : decode cX2_settle 100 = .ok (.iastore, 1) := by decide +kernel
theorem dX2_settle_101 : decode cX2_settle 101 = .ok (.return_, 1) := by decide +kernel
theorem dX2_addInterest_0 : decode cX2_addInterest 0 = .ok (.iconst 0, 1) := by decide +kernel
theorem dX2_addInterest_1 : decode cX2_addInterest 1 = .ok (.istore_n 1, 1) := by decide +kernel
theorem dX2_addInterest_2 : decode cX2_addInterest 2 = .ok (.iload_n 1, 1) := by decide +kernel
theorem dX2_addInterest_3 : decode cX2_addInterest 3 = .ok (.aload_n 0, 1) := by decide +kernel
theorem dX2_addInterest_4 : decode cX2_addInterest 4 = .ok (.getfield 45, 3) := by decide +kernel
theorem dX2_addInterest_7 : decode cX2_addInterest 7 = .ok (.if_icmp .ge 33, 3) := by decide +kernel
theorem dX2_addInterest_10 : decode cX2_addInterest 10 = .ok (.aload_n 0, 1) := by decide +kernel
theorem dX2_addInterest_11 : decode cX2_addInterest 11 = .ok (.iload_n 1, 1) := by decide +kernel
theorem dX2_addInterest_12 : decode cX2_addInterest 12 = .ok (.invokevirtual 48, 3) := by decide +kernel
theorem dX2_addInterest_15 : decode cX2_addInterest 15 = .ok (.ifCond .eq 19, 3) := by decide +kernel
theorem dX2_addInterest_18 : decode cX2_addInterest 18 = .ok (.aload_n 0, 1) := by decide +kernel
theorem dX2_addInterest_19 : decode cX2_addInterest 19 = .ok (.getfield 116, 3) := by decide +kernel
theorem dX2_addInterest_22 : decode cX2_addInterest 22 = .ok (.iload_n 1, 1) := by decide +kernel
theorem dX2_addInterest_23 : decode cX2_addInterest 23 = .ok (.aload_n 0, 1) := by decide +kernel
theorem dX2_addInterest_24 : decode cX2_addInterest 24 = .ok (.aload_n 0, 1) := by decide +kernel
theorem dX2_addInterest_25 : decode cX2_addInterest 25 = .ok (.getfield 116, 3) := by decide +kernel
theorem dX2_addInterest_28 : decode cX2_addInterest 28 = .ok (.iload_n 1, 1) := by decide +kernel
theorem dX2_addInterest_29 : decode cX2_addInterest 29 = .ok (.iaload, 1) := by decide +kernel
theorem dX2_addInterest_30 : decode cX2_addInterest 30 = .ok (.invokevirtual 143, 3) := by decide +kernel
theorem dX2_addInterest_33 : decode cX2_addInterest 33 = .ok (.iastore, 1) := by decide +kernel
theorem dX2_addInterest_34 : decode cX2_addInterest 34 = .ok (.iinc 1 1, 3) := by decide +kernel
theorem dX2_addInterest_37 : decode cX2_addInterest 37 = .ok (.goto (-35), 3) := by decide +kernel
theorem dX2_addInterest_40 : decode cX2_addInterest 40 = .ok (.return_, 1) := by decide +kernel
theorem dX2_breakBank_0 : decode cX2_breakBank 0 = .ok (.aload_n 1, 1) := by decide +kernel
theorem dX2_breakBank_1 : decode cX2_breakBank 1 = .ok (.iconst 1, 1) := by decide +kernel
theorem dX2_breakBank_2 : decode cX2_breakBank 2 = .ok (.putfield 118, 3) := by decide +kernel
theorem dX2_breakBank_5 : decode cX2_breakBank 5 = .ok (.iconst 0, 1) := by decide +kernel
theorem dX2_breakBank_6 : decode cX2_breakBank 6 = .ok (.istore_n 2, 1) := by decide +kernel
theorem dX2_breakBank_7 : decode cX2_breakBank 7 = .ok (.iload_n 2, 1) := by decide +kernel
theorem dX2_breakBank_8 : decode cX2_breakBank 8 = .ok (.aload_n 1, 1) := by decide +kernel
theorem dX2_breakBank_9 : decode cX2_breakBank 9 = .ok (.getfield 45, 3) := by decide +kernel
theorem dX2_breakBank_12 : decode cX2_breakBank 12 = .ok (.if_icmp .ge 53, 3) := by decide +kernel
theorem dX2_breakBank_15 : decode cX2_breakBank 15 = .ok (.aload_n 1, 1) := by decide +kernel
theorem dX2_breakBank_16 : decode cX2_breakBank 16 = .ok (.iload_n 2, 1) := by decide +kernel
theorem dX2_breakBank_17 : decode cX2_breakBank 17 = .ok (.invokevirtual 48, 3) := by decide +kernel
theorem dX2_breakBank_20 : decode cX2_breakBank 20 = .ok (.ifCond .eq 39, 3) := by decide +kernel
theorem dX2_breakBank_23 : decode cX2_breakBank 23 = .ok (.aload_n 0, 1) := by decide +kernel
theorem dX2_breakBank_24 : decode cX2_breakBank 24 = .ok (.getfield 21, 3) := by decide +kernel
theorem dX2_breakBank_27 : decode cX2_breakBank 27 = .ok (.iload_n 2, 1) := by decide +kernel
theorem dX2_breakBank_28 : decode cX2_breakBank 28 = .ok (.dup2, 1) := by decide +kernel
theorem dX2_breakBank_29 : decode cX2_breakBank 29 = .ok (.iaload, 1) := by decide +kernel
theorem dX2_breakBank_30 : decode cX2_breakBank 30 = .ok (.aload_n 1, 1) := by decide +kernel
theorem dX2_breakBank_31 : decode cX2_breakBank 31 = .ok (.getfield 116, 3) := by decide +kernel
theorem dX2_breakBank_34 : decode cX2_breakBank 34 = .ok (.iload_n 2, 1) := by decide +kernel
theorem dX2_breakBank_35 : decode cX2_breakBank 35 = .ok (.iaload, 1) := by decide +kernel
theorem dX2_breakBank_36 : decode cX2_breakBank 36 = .ok (.aload_n 1, 1) := by decide +kernel
theorem dX2_breakBank_37 : decode cX2_breakBank 37 = .ok (.getfield 139, 3) := by decide +kernel
theorem dX2_breakBank_40 : decode cX2_breakBank 40 = .ok (.iload_n 2, 1) := by decide +kernel
theorem dX2_breakBank_41 : decode cX2_breakBank 41 = .ok (.iaload, 1) := by decide +kernel
theorem dX2_breakBank_42 : decode cX2_breakBank 42 = .ok (.isub, 1) := by decide +kernel
theorem dX2_breakBank_43 : decode cX2_breakBank 43 = .ok (.iadd, 1) := by decide +kernel
theorem dX2_breakBank_44 : decode cX2_breakBank 44 = .ok (.iastore, 1) := by decide +kernel
theorem dX2_breakBank_45 : decode cX2_breakBank 45 = .ok (.aload_n 1, 1) := by decide +kernel
theorem dX2_breakBank_46 : decode cX2_breakBank 46 = .ok (.getfield 116, 3) := by decide +kernel
theorem dX2_breakBank_49 : decode cX2_breakBank 49 = .ok (.iload_n 2, 1) := by decide +kernel
theorem dX2_breakBank_50 : decode cX2_breakBank 50 = .ok (.iconst 0, 1) := by decide +kernel
theorem dX2_breakBank_51 : decode cX2_breakBank 51 = .ok (.iastore, 1) := by decide +kernel
theorem dX2_breakBank_52 : decode cX2_breakBank 52 = .ok (.aload_n 1, 1) := by decide +kernel
theorem dX2_breakBank_53 : decode cX2_breakBank 53 = .ok (.getfield 139, 3) := by decide +kernel
theorem dX2_breakBank_56 : decode cX2_breakBank 56 = .ok (.iload_n 2, 1) := by decide +kernel
theorem dX2_breakBank_57 : decode cX2_breakBank 57 = .ok (.iconst 0, 1) := by decide +kernel
theorem dX2_breakBank_58 : decode cX2_breakBank 58 = .ok (.iastore, 1) := by decide +kernel
theorem dX2_breakBank_59 : decode cX2_breakBank 59 = .ok (.iinc 2 1, 3) := by decide +kernel
theorem dX2_breakBank_62 : decode cX2_breakBank 62 = .ok (.goto (-55), 3) := by decide +kernel
theorem dX2_breakBank_65 : decode cX2_breakBank 65 = .ok (.return_, 1) := by decide +kernel
theorem dX2_howManyOver_0 : decode cX2_howManyOver 0 = .ok (.iconst 0, 1) := by decide +kernel
theorem dX2_howManyOver_1 : decode cX2_howManyOver 1 = .ok (.istore_n 2, 1) := by decide +kernel
theorem dX2_howManyOver_2 : decode cX2_howManyOver 2 = .ok (.iconst 0, 1) := by decide +kernel
theorem dX2_howManyOver_3 : decode cX2_howManyOver 3 = .ok (.istore_n 3, 1) := by decide +kernel
theorem dX2_howManyOver_4 : decode cX2_howManyOver 4 = .ok (.iload_n 3, 1) := by decide +kernel
theorem dX2_howManyOver_5 : decode cX2_howManyOver 5 = .ok (.aload_n 1, 1) := by decide +kernel
theorem dX2_howManyOver_6 : decode cX2_howManyOver 6 = .ok (.getfield 45, 3) := by decide +kernel
theorem dX2_howManyOver_9 : decode cX2_howManyOver 9 = .ok (.if_icmp .ge 27, 3) := by decide +kernel
theorem dX2_howManyOver_12 : decode cX2_howManyOver 12 = .ok (.aload_n 0, 1) := by decide +kernel
theorem dX2_howManyOver_13 : decode cX2_howManyOver 13 = .ok (.getfield 21, 3) := by decide +kernel
theorem dX2_howManyOver_16 : decode cX2_howManyOver 16 = .ok (.iload_n 3, 1) := by decide +kernel
theorem dX2_howManyOver_17 : decode cX2_howManyOver 17 = .ok (.iaload, 1) := by decide +kernel
theorem dX2_howManyOver_18 : decode cX2_howManyOver 18 = .ok (.aload_n 1, 1) := by decide +kernel
theorem dX2_howManyOver_19 : decode cX2_howManyOver 19 = .ok (.getfield 91, 3) := by decide +kernel
theorem dX2_howManyOver_22 : decode cX2_howManyOver 22 = .ok (.iload_n 3, 1) := by decide +kernel
theorem dX2_howManyOver_23 : decode cX2_howManyOver 23 = .ok (.iaload, 1) := by decide +kernel
theorem dX2_howManyOver_24 : decode cX2_howManyOver 24 = .ok (.if_icmp .le 6, 3) := by decide +kernel
theorem dX2_howManyOver_27 : decode cX2_howManyOver 27 = .ok (.iinc 2 1, 3) := by decide +kernel
theorem dX2_howManyOver_30 : decode cX2_howManyOver 30 = .ok (.iinc 3 1, 3) := by decide +kernel
theorem dX2_howManyOver_33 : decode cX2_howManyOver 33 = .ok (.goto (-29), 3) := by decide +kernel
theorem dX2_howManyOver_36 : decode cX2_howManyOver 36 = .ok (.iload_n 2, 1) := by decide +kernel
theorem dX2_howManyOver_37 : decode cX2_howManyOver 37 = .ok (.ireturn, 1) := by decide +kernel
theorem dX3_runFrom_0 : decode cX3_runFrom 0 = .ok (.iload_n 1, 1) := by decide +kernel
theorem dX3_runFrom_1 : decode cX3_runFrom 1 = .ok (.istore_n 2, 1) := by decide +kernel
theorem dX3_runFrom_2 : decode cX3_runFrom 2 = .ok (.iconst 0, 1) := by decide +kernel
theorem dX3_runFrom_3 : decode cX3_runFrom 3 = .ok (.istore_n 3, 1) := by decide +kernel
theorem dX3_runFrom_4 : decode cX3_runFrom 4 = .ok (.iload_n 3, 1) := by decide +kernel
theorem dX3_runFrom_5 : decode cX3_runFrom 5 = .ok (.aload_n 0, 1) := by decide +kernel
theorem dX3_runFrom_6 : decode cX3_runFrom 6 = .ok (.getfield 9, 3) := by decide +kernel
theorem dX3_runFrom_9 : decode cX3_runFrom 9 = .ok (.if_icmp .ge 81, 3) := by decide +kernel
theorem dX3_runFrom_12 : decode cX3_runFrom 12 = .ok (.iload_n 2, 1) := by decide +kernel
theorem dX3_runFrom_13 : decode cX3_runFrom 13 = .ok (.istore 4, 2) := by decide +kernel
theorem dX3_runFrom_15 : decode cX3_runFrom 15 = .ok (.iconst 0, 1) := by decide +kernel
theorem dX3_runFrom_16 : decode cX3_runFrom 16 = .ok (.istore 5, 2) := by decide +kernel
theorem dX3_runFrom_18 : decode cX3_runFrom 18 = .ok (.iload 5, 2) := by decide +kernel
theorem dX3_runFrom_20 : decode cX3_runFrom 20 = .ok (.aload_n 0, 1) := by decide +kernel
theorem dX3_runFrom_21 : decode cX3_runFrom 21 = .ok (.getfield 9, 3) := by decide +kernel
theorem dX3_runFrom_24 : decode cX3_runFrom 24 = .ok (.if_icmp .ge 49, 3) := by decide +kernel
theorem dX3_runFrom_27 : decode cX3_runFrom 27 = .ok (.aload_n 0, 1) := by decide +kernel
theorem dX3_runFrom_28 : decode cX3_runFrom 28 = .ok (.iload 5, 2) := by decide +kernel
theorem dX3_runFrom_30 : decode cX3_runFrom 30 = .ok (.invokevirtual 15, 3) := by decide +kernel
theorem dX3_runFrom_33 : decode cX3_runFrom 33 = .ok (.ifCond .eq 34, 3) := by decide +kernel
theorem dX3_runFrom_36 : decode cX3_runFrom 36 = .ok (.aload_n 0, 1) := by decide +kernel
theorem dX3_runFrom_37 : decode cX3_runFrom 37 = .ok (.getfield 19, 3) := by decide +kernel
theorem dX3_runFrom_40 : decode cX3_runFrom 40 = .ok (.iload 5, 2) := by decide +kernel
theorem dX3_runFrom_42 : decode cX3_runFrom 42 = .ok (.iaload, 1) := by decide +kernel
theorem dX3_runFrom_43 : decode cX3_runFrom 43 = .ok (.ifCond .le 24, 3) := by decide +kernel
theorem dX3_runFrom_46 : decode cX3_runFrom 46 = .ok (.aload_n 0, 1) := by decide +kernel
theorem dX3_runFrom_47 : decode cX3_runFrom 47 = .ok (.getfield 23, 3) := by decide +kernel
theorem dX3_runFrom_50 : decode cX3_runFrom 50 = .ok (.iload 5, 2) := by decide +kernel
theorem dX3_runFrom_52 : decode cX3_runFrom 52 = .ok (.iaload, 1) := by decide +kernel
theorem dX3_runFrom_53 : decode cX3_runFrom 53 = .ok (.iload_n 2, 1) := by decide +kernel
theorem dX3_runFrom_54 : decode cX3_runFrom 54 = .ok (.iand, 1) := by decide +kernel
theorem dX3_runFrom_55 : decode cX3_runFrom 55 = .ok (.ifCond .eq 12, 3) := by decide +kernel
theorem dX3_runFrom_58 : decode cX3_runFrom 58 = .ok (.iload 4, 2) := by decide +kernel
theorem dX3_runFrom_60 : decode cX3_runFrom 60 = .ok (.iconst 1, 1) := by decide +kernel
theorem dX3_runFrom_61 : decode cX3_runFrom 61 = .ok (.iload 5, 2) := by decide +kernel
theorem dX3_runFrom_63 : decode cX3_runFrom 63 = .ok (.ishl, 1) := by decide +kernel
theorem dX3_runFrom_64 : decode cX3_runFrom 64 = .ok (.ior, 1) := by decide +kernel
theorem dX3_runFrom_65 : decode cX3_runFrom 65 = .ok (.istore 4, 2) := by decide +kernel
theorem dX3_runFrom_67 : decode cX3_runFrom 67 = .ok (.iinc 5 1, 3) := by decide +kernel
theorem dX3_runFrom_70 : decode cX3_runFrom 70 = .ok (.goto (-52), 3) := by decide +kernel
theorem dX3_runFrom_73 : decode cX3_runFrom 73 = .ok (.iload 4, 2) := by decide +kernel
theorem dX3_runFrom_75 : decode cX3_runFrom 75 = .ok (.iload_n 2, 1) := by decide +kernel
theorem dX3_runFrom_76 : decode cX3_runFrom 76 = .ok (.if_icmp .ne 5, 3) := by decide +kernel
theorem dX3_runFrom_79 : decode cX3_runFrom 79 = .ok (.iload_n 2, 1) := by decide +kernel
theorem dX3_runFrom_80 : decode cX3_runFrom 80 = .ok (.ireturn, 1) := by decide +kernel
theorem dX3_runFrom_81 : decode cX3_runFrom 81 = .ok (.iload 4, 2) := by decide +kernel
theorem dX3_runFrom_83 : decode cX3_runFrom 83 = .ok (.istore_n 2, 1) := by decide +kernel
theorem dX3_runFrom_84 : decode cX3_runFrom 84 = .ok (.iinc 3 1, 3) := by decide +kernel
theorem dX3_runFrom_87 : decode cX3_runFrom 87 = .ok (.goto (-83), 3) := by decide +kernel
theorem dX3_runFrom_90 : decode cX3_runFrom 90 = .ok (.iload_n 2, 1) := by decide +kernel
theorem dX3_runFrom_91 : decode cX3_runFrom 91 = .ok (.ireturn, 1) := by decide +kernel
theorem dX3_fewestToTell_0 : decode cX3_fewestToTell 0 = .ok (.iconst (-1), 1) := by decide +kernel
theorem dX3_fewestToTell_1 : decode cX3_fewestToTell 1 = .ok (.istore_n 1, 1) := by decide +kernel
theorem dX3_fewestToTell_2 : decode cX3_fewestToTell 2 = .ok (.iconst 1, 1) := by decide +kernel
theorem dX3_fewestToTell_3 : decode cX3_fewestToTell 3 = .ok (.istore_n 2, 1) := by decide +kernel
theorem dX3_fewestToTell_4 : decode cX3_fewestToTell 4 = .ok (.iload_n 2, 1) := by decide +kernel
theorem dX3_fewestToTell_5 : decode cX3_fewestToTell 5 = .ok (.aload_n 0, 1) := by decide +kernel
theorem dX3_fewestToTell_6 : decode cX3_fewestToTell 6 = .ok (.invokevirtual 26, 3) := by decide +kernel
theorem dX3_fewestToTell_9 : decode cX3_fewestToTell 9 = .ok (.if_icmp .gt 56, 3) := by decide +kernel
theorem dX3_fewestToTell_12 : decode cX3_fewestToTell 12 = .ok (.iload_n 2, 1) := by decide +kernel
theorem dX3_fewestToTell_13 : decode cX3_fewestToTell 13 = .ok (.aload_n 0, 1) := by decide +kernel
theorem dX3_fewestToTell_14 : decode cX3_fewestToTell 14 = .ok (.getfield 30, 3) := by decide +kernel
theorem dX3_fewestToTell_17 : decode cX3_fewestToTell 17 = .ok (.iconst (-1), 1) := by decide +kernel
theorem dX3_fewestToTell_18 : decode cX3_fewestToTell 18 = .ok (.ixor, 1) := by decide +kernel
theorem dX3_fewestToTell_19 : decode cX3_fewestToTell 19 = .ok (.iand, 1) := by decide +kernel
theorem dX3_fewestToTell_20 : decode cX3_fewestToTell 20 = .ok (.ifCond .ne 7, 3) := by decide +kernel
theorem dX3_fewestToTell_23 : decode cX3_fewestToTell 23 = .ok (.iconst 1, 1) := by decide +kernel
theorem dX3_fewestToTell_24 : decode cX3_fewestToTell 24 = .ok (.goto 4, 3) := by decide +kernel
theorem dX3_fewestToTell_27 : decode cX3_fewestToTell 27 = .ok (.iconst 0, 1) := by decide +kernel
theorem dX3_fewestToTell_28 : decode cX3_fewestToTell 28 = .ok (.istore_n 3, 1) := by decide +kernel
theorem dX3_fewestToTell_29 : decode cX3_fewestToTell 29 = .ok (.iload_n 3, 1) := by decide +kernel
theorem dX3_fewestToTell_30 : decode cX3_fewestToTell 30 = .ok (.ifCond .eq 29, 3) := by decide +kernel
theorem dX3_fewestToTell_33 : decode cX3_fewestToTell 33 = .ok (.iload_n 2, 1) := by decide +kernel
theorem dX3_fewestToTell_34 : decode cX3_fewestToTell 34 = .ok (.iload_n 1, 1) := by decide +kernel
theorem dX3_fewestToTell_35 : decode cX3_fewestToTell 35 = .ok (.invokestatic 33, 3) := by decide +kernel
theorem dX3_fewestToTell_38 : decode cX3_fewestToTell 38 = .ok (.ifCond .eq 21, 3) := by decide +kernel
theorem dX3_fewestToTell_41 : decode cX3_fewestToTell 41 = .ok (.aload_n 0, 1) := by decide +kernel
theorem dX3_fewestToTell_42 : decode cX3_fewestToTell 42 = .ok (.aload_n 0, 1) := by decide +kernel
theorem dX3_fewestToTell_43 : decode cX3_fewestToTell 43 = .ok (.iload_n 2, 1) := by decide +kernel
theorem dX3_fewestToTell_44 : decode cX3_fewestToTell 44 = .ok (.invokestatic 39, 3) := by decide +kernel
theorem dX3_fewestToTell_47 : decode cX3_fewestToTell 47 = .ok (.invokevirtual 43, 3) := by decide +kernel
theorem dX3_fewestToTell_50 : decode cX3_fewestToTell 50 = .ok (.aload_n 0, 1) := by decide +kernel
theorem dX3_fewestToTell_51 : decode cX3_fewestToTell 51 = .ok (.getfield 47, 3) := by decide +kernel
theorem dX3_fewestToTell_54 : decode cX3_fewestToTell 54 = .ok (.if_icmp .le 5, 3) := by decide +kernel
theorem dX3_fewestToTell_57 : decode cX3_fewestToTell 57 = .ok (.iload_n 2, 1) := by decide +kernel
theorem dX3_fewestToTell_58 : decode cX3_fewestToTell 58 = .ok (.istore_n 1, 1) := by decide +kernel
theorem dX3_fewestToTell_59 : decode cX3_fewestToTell 59 = .ok (.iinc 2 1, 3) := by decide +kernel
theorem dX3_fewestToTell_62 : decode cX3_fewestToTell 62 = .ok (.goto (-58), 3) := by decide +kernel
theorem dX3_fewestToTell_65 : decode cX3_fewestToTell 65 = .ok (.iload_n 1, 1) := by decide +kernel
theorem dX3_fewestToTell_66 : decode cX3_fewestToTell 66 = .ok (.ireturn, 1) := by decide +kernel
theorem dX3_greatestRun_0 : decode cX3_greatestRun 0 = .ok (.iconst 0, 1) := by decide +kernel
theorem dX3_greatestRun_1 : decode cX3_greatestRun 1 = .ok (.istore_n 1, 1) := by decide +kernel
theorem dX3_greatestRun_2 : decode cX3_greatestRun 2 = .ok (.iconst 0, 1) := by decide +kernel
theorem dX3_greatestRun_3 : decode cX3_greatestRun 3 = .ok (.istore_n 2, 1) := by decide +kernel
theorem dX3_greatestRun_4 : decode cX3_greatestRun 4 = .ok (.iload_n 2, 1) := by decide +kernel
theorem dX3_greatestRun_5 : decode cX3_greatestRun 5 = .ok (.aload_n 0, 1) := by decide +kernel
theorem dX3_greatestRun_6 : decode cX3_greatestRun 6 = .ok (.getfield 9, 3) := by decide +kernel
theorem dX3_greatestRun_9 : decode cX3_greatestRun 9 = .ok (.if_icmp .ge 33, 3) := by decide +kernel
theorem dX3_greatestRun_12 : decode cX3_greatestRun 12 = .ok (.aload_n 0, 1) := by decide +kernel
theorem dX3_greatestRun_13 : decode cX3_greatestRun 13 = .ok (.iload_n 2, 1) := by decide +kernel
theorem dX3_greatestRun_14 : decode cX3_greatestRun 14 = .ok (.invokevirtual 15, 3) := by decide +kernel
theorem dX3_greatestRun_17 : decode cX3_greatestRun 17 = .ok (.ifCond .eq 19, 3) := by decide +kernel
theorem dX3_greatestRun_20 : decode cX3_greatestRun 20 = .ok (.iload_n 1, 1) := by decide +kernel
theorem dX3_greatestRun_21 : decode cX3_greatestRun 21 = .ok (.aload_n 0, 1) := by decide +kernel
theorem dX3_greatestRun_22 : decode cX3_greatestRun 22 = .ok (.aload_n 0, 1) := by decide +kernel
theorem dX3_greatestRun_23 : decode cX3_greatestRun 23 = .ok (.iconst 1, 1) := by decide +kernel
theorem dX3_greatestRun_24 : decode cX3_greatestRun 24 = .ok (.iload_n 2, 1) := by decide +kernel
theorem dX3_greatestRun_25 : decode cX3_greatestRun 25 = .ok (.ishl, 1) := by decide +kernel
theorem dX3_greatestRun_26 : decode cX3_greatestRun 26 = .ok (.invokestatic 39, 3) := by decide +kernel
theorem dX3_greatestRun_29 : decode cX3_greatestRun 29 = .ok (.invokevirtual 43, 3) := by decide +kernel
theorem dX3_greatestRun_32 : decode cX3_greatestRun 32 = .ok (.invokestatic 50, 3) := by decide +kernel
theorem dX3_greatestRun_35 : decode cX3_greatestRun 35 = .ok (.istore_n 1, 1) := by decide +kernel
theorem dX3_greatestRun_36 : decode cX3_greatestRun 36 = .ok (.iinc 2 1, 3) := by decide +kernel
theorem dX3_greatestRun_39 : decode cX3_greatestRun 39 = .ok (.goto (-35), 3) := by decide +kernel
theorem dX3_greatestRun_42 : decode cX3_greatestRun 42 = .ok (.iload_n 1, 1) := by decide +kernel
theorem dX3_greatestRun_43 : decode cX3_greatestRun 43 = .ok (.ireturn, 1) := by decide +kernel
theorem dX3_painTogether_0 : decode cX3_painTogether 0 = .ok (.iconst 0, 1) := by decide +kernel
theorem dX3_painTogether_1 : decode cX3_painTogether 1 = .ok (.istore_n 3, 1) := by decide +kernel
theorem dX3_painTogether_2 : decode cX3_painTogether 2 = .ok (.iconst 0, 1) := by decide +kernel
theorem dX3_painTogether_3 : decode cX3_painTogether 3 = .ok (.istore 4, 2) := by decide +kernel
theorem dX3_painTogether_5 : decode cX3_painTogether 5 = .ok (.iload 4, 2) := by decide +kernel
theorem dX3_painTogether_7 : decode cX3_painTogether 7 = .ok (.aload_n 0, 1) := by decide +kernel
theorem dX3_painTogether_8 : decode cX3_painTogether 8 = .ok (.getfield 9, 3) := by decide +kernel
theorem dX3_painTogether_11 : decode cX3_painTogether 11 = .ok (.if_icmp .ge 33, 3) := by decide +kernel
theorem dX3_painTogether_14 : decode cX3_painTogether 14 = .ok (.iload_n 3, 1) := by decide +kernel
theorem dX3_painTogether_15 : decode cX3_painTogether 15 = .ok (.iload_n 1, 1) := by decide +kernel
theorem dX3_painTogether_16 : decode cX3_painTogether 16 = .ok (.iload 4, 2) := by decide +kernel
theorem dX3_painTogether_18 : decode cX3_painTogether 18 = .ok (.ishr, 1) := by decide +kernel
theorem dX3_painTogether_19 : decode cX3_painTogether 19 = .ok (.iconst 1, 1) := by decide +kernel
theorem dX3_painTogether_20 : decode cX3_painTogether 20 = .ok (.iand, 1) := by decide +kernel
theorem dX3_painTogether_21 : decode cX3_painTogether 21 = .ok (.iconst 1, 1) := by decide +kernel
theorem dX3_painTogether_22 : decode cX3_painTogether 22 = .ok (.if_icmp .ne 13, 3) := by decide +kernel
theorem dX3_painTogether_25 : decode cX3_painTogether 25 = .ok (.aload_n 0, 1) := by decide +kernel
theorem dX3_painTogether_26 : decode cX3_painTogether 26 = .ok (.iload 4, 2) := by decide +kernel
theorem dX3_painTogether_28 : decode cX3_painTogether 28 = .ok (.iload_n 2, 1) := by decide +kernel
theorem dX3_painTogether_29 : decode cX3_painTogether 29 = .ok (.invokevirtual 56, 3) := by decide +kernel
theorem dX3_painTogether_32 : decode cX3_painTogether 32 = .ok (.goto 4, 3) := by decide +kernel
theorem dX3_painTogether_35 : decode cX3_painTogether 35 = .ok (.iconst 0, 1) := by decide +kernel
theorem dX3_painTogether_36 : decode cX3_painTogether 36 = .ok (.iadd, 1) := by decide +kernel
theorem dX3_painTogether_37 : decode cX3_painTogether 37 = .ok (.istore_n 3, 1) := by decide +kernel
theorem dX3_painTogether_38 : decode cX3_painTogether 38 = .ok (.iinc 4 1, 3) := by decide +kernel
theorem dX3_painTogether_41 : decode cX3_painTogether 41 = .ok (.goto (-36), 3) := by decide +kernel
theorem dX3_painTogether_44 : decode cX3_painTogether 44 = .ok (.iload_n 3, 1) := by decide +kernel
theorem dX3_painTogether_45 : decode cX3_painTogether 45 = .ok (.ireturn, 1) := by decide +kernel
theorem dX3_setsWithPain_0 : decode cX3_setsWithPain 0 = .ok (.iconst 0, 1) := by decide +kernel
theorem dX3_setsWithPain_1 : decode cX3_setsWithPain 1 = .ok (.istore_n 3, 1) := by decide +kernel
theorem dX3_setsWithPain_2 : decode cX3_setsWithPain 2 = .ok (.iconst 0, 1) := by decide +kernel
theorem dX3_setsWithPain_3 : decode cX3_setsWithPain 3 = .ok (.istore 4, 2) := by decide +kernel
theorem dX3_setsWithPain_5 : decode cX3_setsWithPain 5 = .ok (.iload 4, 2) := by decide +kernel
theorem dX3_setsWithPain_7 : decode cX3_setsWithPain 7 = .ok (.aload_n 0, 1) := by decide +kernel
theorem dX3_setsWithPain_8 : decode cX3_setsWithPain 8 = .ok (.invokevirtual 26, 3) := by decide +kernel
theorem dX3_setsWithPain_11 : decode cX3_setsWithPain 11 = .ok (.if_icmp .gt 23, 3) := by decide +kernel
theorem dX3_setsWithPain_14 : decode cX3_setsWithPain 14 = .ok (.aload_n 0, 1) := by decide +kernel
theorem dX3_setsWithPain_15 : decode cX3_setsWithPain 15 = .ok (.iload 4, 2) := by decide +kernel
theorem dX3_setsWithPain_17 : decode cX3_setsWithPain 17 = .ok (.iload_n 2, 1) := by decide +kernel
theorem dX3_setsWithPain_18 : decode cX3_setsWithPain 18 = .ok (.invokestatic 59, 3) := by decide +kernel
theorem dX3_setsWithPain_21 : decode cX3_setsWithPain 21 = .ok (.iload_n 1, 1) := by decide +kernel
theorem dX3_setsWithPain_22 : decode cX3_setsWithPain 22 = .ok (.if_icmp .ne 6, 3) := by decide +kernel
theorem dX3_setsWithPain_25 : decode cX3_setsWithPain 25 = .ok (.iinc 3 1, 3) := by decide +kernel
theorem dX3_setsWithPain_28 : decode cX3_setsWithPain 28 = .ok (.iinc 4 1, 3) := by decide +kernel
theorem dX3_setsWithPain_31 : decode cX3_setsWithPain 31 = .ok (.goto (-26), 3) := by decide +kernel
theorem dX3_setsWithPain_34 : decode cX3_setsWithPain 34 = .ok (.iload_n 3, 1) := by decide +kernel
theorem dX3_setsWithPain_35 : decode cX3_setsWithPain 35 = .ok (.ireturn, 1) := by decide +kernel
theorem dX3_inAllSets_0 : decode cX3_inAllSets 0 = .ok (.iconst (-1), 1) := by decide +kernel
theorem dX3_inAllSets_1 : decode cX3_inAllSets 1 = .ok (.istore_n 3, 1) := by decide +kernel
theorem dX3_inAllSets_2 : decode cX3_inAllSets 2 = .ok (.iconst 0, 1) := by decide +kernel
theorem dX3_inAllSets_3 : decode cX3_inAllSets 3 = .ok (.istore 4, 2) := by decide +kernel
theorem dX3_inAllSets_5 : decode cX3_inAllSets 5 = .ok (.iload 4, 2) := by decide +kernel
theorem dX3_inAllSets_7 : decode cX3_inAllSets 7 = .ok (.aload_n 0, 1) := by decide +kernel
theorem dX3_inAllSets_8 : decode cX3_inAllSets 8 = .ok (.invokevirtual 26, 3) := by decide +kernel
theorem dX3_inAllSets_11 : decode cX3_inAllSets 11 = .ok (.if_icmp .gt 25, 3) := by decide +kernel
theorem dX3_inAllSets_14 : decode cX3_inAllSets 14 = .ok (.aload_n 0, 1) := by decide +kernel
theorem dX3_inAllSets_15 : decode cX3_inAllSets 15 = .ok (.iload 4, 2) := by decide +kernel
theorem dX3_inAllSets_17 : decode cX3_inAllSets 17 = .ok (.iload_n 2, 1) := by decide +kernel
theorem dX3_inAllSets_18 : decode cX3_inAllSets 18 = .ok (.invokestatic 59, 3) := by decide +kernel
theorem dX3_inAllSets_21 : decode cX3_inAllSets 21 = .ok (.iload_n 1, 1) := by decide +kernel
theorem dX3_inAllSets_22 : decode cX3_inAllSets 22 = .ok (.if_icmp .ne 8, 3) := by decide +kernel
theorem dX3_inAllSets_25 : decode cX3_inAllSets 25 = .ok (.iload_n 3, 1) := by decide +kernel
theorem dX3_inAllSets_26 : decode cX3_inAllSets 26 = .ok (.iload 4, 2) := by decide +kernel
theorem dX3_inAllSets_28 : decode cX3_inAllSets 28 = .ok (.iand, 1) := by decide +kernel
theorem dX3_inAllSets_29 : decode cX3_inAllSets 29 = .ok (.istore_n 3, 1) := by decide +kernel
theorem dX3_inAllSets_30 : decode cX3_inAllSets 30 = .ok (.iinc 4 1, 3) := by decide +kernel
theorem dX3_inAllSets_33 : decode cX3_inAllSets 33 = .ok (.goto (-28), 3) := by decide +kernel
theorem dX3_inAllSets_36 : decode cX3_inAllSets 36 = .ok (.iload_n 3, 1) := by decide +kernel
theorem dX3_inAllSets_37 : decode cX3_inAllSets 37 = .ok (.iconst (-1), 1) := by decide +kernel
theorem dX3_inAllSets_38 : decode cX3_inAllSets 38 = .ok (.if_icmp .ne 7, 3) := by decide +kernel
theorem dX3_inAllSets_41 : decode cX3_inAllSets 41 = .ok (.iconst 0, 1) := by decide +kernel
theorem dX3_inAllSets_42 : decode cX3_inAllSets 42 = .ok (.goto 4, 3) := by decide +kernel
theorem dX3_inAllSets_45 : decode cX3_inAllSets 45 = .ok (.iload_n 3, 1) := by decide +kernel
theorem dX3_inAllSets_46 : decode cX3_inAllSets 46 = .ok (.ireturn, 1) := by decide +kernel
theorem dX3_whoCouldBear_0 : decode cX3_whoCouldBear 0 = .ok (.iconst 0, 1) := by decide +kernel
theorem dX3_whoCouldBear_1 : decode cX3_whoCouldBear 1 = .ok (.istore_n 2, 1) := by decide +kernel
theorem dX3_whoCouldBear_2 : decode cX3_whoCouldBear 2 = .ok (.iconst 0, 1) := by decide +kernel
theorem dX3_whoCouldBear_3 : decode cX3_whoCouldBear 3 = .ok (.istore_n 3, 1) := by decide +kernel
theorem dX3_whoCouldBear_4 : decode cX3_whoCouldBear 4 = .ok (.iload_n 3, 1) := by decide +kernel
theorem dX3_whoCouldBear_5 : decode cX3_whoCouldBear 5 = .ok (.aload_n 0, 1) := by decide +kernel
theorem dX3_whoCouldBear_6 : decode cX3_whoCouldBear 6 = .ok (.getfield 9, 3) := by decide +kernel
theorem dX3_whoCouldBear_9 : decode cX3_whoCouldBear 9 = .ok (.if_icmp .ge 43, 3) := by decide +kernel
theorem dX3_whoCouldBear_12 : decode cX3_whoCouldBear 12 = .ok (.aload_n 0, 1) := by decide +kernel
theorem dX3_whoCouldBear_13 : decode cX3_whoCouldBear 13 = .ok (.iload_n 3, 1) := by decide +kernel
theorem dX3_whoCouldBear_14 : decode cX3_whoCouldBear 14 = .ok (.invokevirtual 15, 3) := by decide +kernel
theorem dX3_whoCouldBear_17 : decode cX3_whoCouldBear 17 = .ok (.ifCond .eq 29, 3) := by decide +kernel
theorem dX3_whoCouldBear_20 : decode cX3_whoCouldBear 20 = .ok (.aload_n 0, 1) := by decide +kernel
theorem dX3_whoCouldBear_21 : decode cX3_whoCouldBear 21 = .ok (.iload_n 3, 1) := by decide +kernel
theorem dX3_whoCouldBear_22 : decode cX3_whoCouldBear 22 = .ok (.aload_n 0, 1) := by decide +kernel
theorem dX3_whoCouldBear_23 : decode cX3_whoCouldBear 23 = .ok (.getfield 63, 3) := by decide +kernel
theorem dX3_whoCouldBear_26 : decode cX3_whoCouldBear 26 = .ok (.invokevirtual 56, 3) := by decide +kernel
theorem dX3_whoCouldBear_29 : decode cX3_whoCouldBear 29 = .ok (.iload_n 1, 1) := by decide +kernel
theorem dX3_whoCouldBear_30 : decode cX3_whoCouldBear 30 = .ok (.iadd, 1) := by decide +kernel
theorem dX3_whoCouldBear_31 : decode cX3_whoCouldBear 31 = .ok (.aload_n 0, 1) := by decide +kernel
theorem dX3_whoCouldBear_32 : decode cX3_whoCouldBear 32 = .ok (.getfield 66, 3) := by decide +kernel
theorem dX3_whoCouldBear_35 : decode cX3_whoCouldBear 35 = .ok (.iload_n 3, 1) := by decide +kernel
theorem dX3_whoCouldBear_36 : decode cX3_whoCouldBear 36 = .ok (.iaload, 1) := by decide +kernel
theorem dX3_whoCouldBear_37 : decode cX3_whoCouldBear 37 = .ok (.if_icmp .gt 9, 3) := by decide +kernel
theorem dX3_whoCouldBear_40 : decode cX3_whoCouldBear 40 = .ok (.iload_n 2, 1) := by decide +kernel
theorem dX3_whoCouldBear_41 : decode cX3_whoCouldBear 41 = .ok (.iconst 1, 1) := by decide +kernel
theorem dX3_whoCouldBear_42 : decode cX3_whoCouldBear 42 = .ok (.iload_n 3, 1) := by decide +kernel
theorem dX3_whoCouldBear_43 : decode cX3_whoCouldBear 43 = .ok (.ishl, 1) := by decide +kernel
theorem dX3_whoCouldBear_44 : decode cX3_whoCouldBear 44 = .ok (.ior, 1) := by decide +kernel
theorem dX3_whoCouldBear_45 : decode cX3_whoCouldBear 45 = .ok (.istore_n 2, 1) := by decide +kernel
theorem dX3_whoCouldBear_46 : decode cX3_whoCouldBear 46 = .ok (.iinc 3 1, 3) := by decide +kernel
theorem dX3_whoCouldBear_49 : decode cX3_whoCouldBear 49 = .ok (.goto (-45), 3) := by decide +kernel
theorem dX3_whoCouldBear_52 : decode cX3_whoCouldBear 52 = .ok (.iload_n 2, 1) := by decide +kernel
theorem dX3_whoCouldBear_53 : decode cX3_whoCouldBear 53 = .ok (.ireturn, 1) := by decide +kernel
theorem dX3_fewestBearers_0 : decode cX3_fewestBearers 0 = .ok (.aload_n 0, 1) := by decide +kernel
theorem dX3_fewestBearers_1 : decode cX3_fewestBearers 1 = .ok (.aload_n 0, 1) := by decide +kernel
theorem dX3_fewestBearers_2 : decode cX3_fewestBearers 2 = .ok (.invokevirtual 26, 3) := by decide +kernel
theorem dX3_fewestBearers_5 : decode cX3_fewestBearers 5 = .ok (.invokevirtual 43, 3) := by decide +kernel
theorem dX3_fewestBearers_8 : decode cX3_fewestBearers 8 = .ok (.istore_n 1, 1) := by decide +kernel
theorem dX3_fewestBearers_9 : decode cX3_fewestBearers 9 = .ok (.iconst (-1), 1) := by decide +kernel
theorem dX3_fewestBearers_10 : decode cX3_fewestBearers 10 = .ok (.istore_n 2, 1) := by decide +kernel
theorem dX3_fewestBearers_11 : decode cX3_fewestBearers 11 = .ok (.iconst 0, 1) := by decide +kernel
theorem dX3_fewestBearers_12 : decode cX3_fewestBearers 12 = .ok (.istore_n 3, 1) := by decide +kernel
theorem dX3_fewestBearers_13 : decode cX3_fewestBearers 13 = .ok (.iload_n 3, 1) := by decide +kernel
theorem dX3_fewestBearers_14 : decode cX3_fewestBearers 14 = .ok (.aload_n 0, 1) := by decide +kernel
theorem dX3_fewestBearers_15 : decode cX3_fewestBearers 15 = .ok (.invokevirtual 26, 3) := by decide +kernel
theorem dX3_fewestBearers_18 : decode cX3_fewestBearers 18 = .ok (.if_icmp .gt 51, 3) := by decide +kernel
theorem dX3_fewestBearers_21 : decode cX3_fewestBearers 21 = .ok (.iload_n 3, 1) := by decide +kernel
theorem dX3_fewestBearers_22 : decode cX3_fewestBearers 22 = .ok (.aload_n 0, 1) := by decide +kernel
theorem dX3_fewestBearers_23 : decode cX3_fewestBearers 23 = .ok (.getfield 30, 3) := by decide +kernel
theorem dX3_fewestBearers_26 : decode cX3_fewestBearers 26 = .ok (.iconst (-1), 1) := by decide +kernel
theorem dX3_fewestBearers_27 : decode cX3_fewestBearers 27 = .ok (.ixor, 1) := by decide +kernel
theorem dX3_fewestBearers_28 : decode cX3_fewestBearers 28 = .ok (.iand, 1) := by decide +kernel
theorem dX3_fewestBearers_29 : decode cX3_fewestBearers 29 = .ok (.ifCond .ne 7, 3) := by decide +kernel
theorem dX3_fewestBearers_32 : decode cX3_fewestBearers 32 = .ok (.iconst 1, 1) := by decide +kernel
theorem dX3_fewestBearers_33 : decode cX3_fewestBearers 33 = .ok (.goto 4, 3) := by decide +kernel
theorem dX3_fewestBearers_36 : decode cX3_fewestBearers 36 = .ok (.iconst 0, 1) := by decide +kernel
theorem dX3_fewestBearers_37 : decode cX3_fewestBearers 37 = .ok (.istore 4, 2) := by decide +kernel
theorem dX3_fewestBearers_39 : decode cX3_fewestBearers 39 = .ok (.iload 4, 2) := by decide +kernel
theorem dX3_fewestBearers_41 : decode cX3_fewestBearers 41 = .ok (.ifCond .eq 22, 3) := by decide +kernel
theorem dX3_fewestBearers_44 : decode cX3_fewestBearers 44 = .ok (.iload_n 3, 1) := by decide +kernel
theorem dX3_fewestBearers_45 : decode cX3_fewestBearers 45 = .ok (.iload_n 2, 1) := by decide +kernel
theorem dX3_fewestBearers_46 : decode cX3_fewestBearers 46 = .ok (.invokestatic 33, 3) := by decide +kernel
theorem dX3_fewestBearers_49 : decode cX3_fewestBearers 49 = .ok (.ifCond .eq 14, 3) := by decide +kernel
theorem dX3_fewestBearers_52 : decode cX3_fewestBearers 52 = .ok (.aload_n 0, 1) := by decide +kernel
theorem dX3_fewestBearers_53 : decode cX3_fewestBearers 53 = .ok (.iload_n 3, 1) := by decide +kernel
theorem dX3_fewestBearers_54 : decode cX3_fewestBearers 54 = .ok (.invokestatic 69, 3) := by decide +kernel
theorem dX3_fewestBearers_57 : decode cX3_fewestBearers 57 = .ok (.iload_n 1, 1) := by decide +kernel
theorem dX3_fewestBearers_58 : decode cX3_fewestBearers 58 = .ok (.if_icmp .lt 5, 3) := by decide +kernel
theorem dX3_fewestBearers_61 : decode cX3_fewestBearers 61 = .ok (.iload_n 3, 1) := by decide +kernel
theorem dX3_fewestBearers_62 : decode cX3_fewestBearers 62 = .ok (.istore_n 2, 1) := by decide +kernel
theorem dX3_fewestBearers_63 : decode cX3_fewestBearers 63 = .ok (.iinc 3 1, 3) := by decide +kernel
theorem dX3_fewestBearers_66 : decode cX3_fewestBearers 66 = .ok (.goto (-53), 3) := by decide +kernel
theorem dX3_fewestBearers_69 : decode cX3_fewestBearers 69 = .ok (.iload_n 2, 1) := by decide +kernel
theorem dX3_fewestBearers_70 : decode cX3_fewestBearers 70 = .ok (.ireturn, 1) := by decide +kernel
theorem dX3_quietDay_0 : decode cX3_quietDay 0 = .ok (.iconst 0, 1) := by decide +kernel
theorem dX3_quietDay_1 : decode cX3_quietDay 1 = .ok (.istore_n 1, 1) := by decide +kernel
theorem dX3_quietDay_2 : decode cX3_quietDay 2 = .ok (.iconst 1, 1) := by decide +kernel
theorem dX3_quietDay_3 : decode cX3_quietDay 3 = .ok (.istore_n 2, 1) := by decide +kernel
theorem dX3_quietDay_4 : decode cX3_quietDay 4 = .ok (.iload_n 2, 1) := by decide +kernel
theorem dX3_quietDay_5 : decode cX3_quietDay 5 = .ok (.bipush 7, 2) := by decide +kernel
theorem dX3_quietDay_7 : decode cX3_quietDay 7 = .ok (.if_icmp .ge 32, 3) := by decide +kernel
theorem dX3_quietDay_10 : decode cX3_quietDay 10 = .ok (.aload_n 0, 1) := by decide +kernel
theorem dX3_quietDay_11 : decode cX3_quietDay 11 = .ok (.aload_n 0, 1) := by decide +kernel
theorem dX3_quietDay_12 : decode cX3_quietDay 12 = .ok (.getfield 30, 3) := by decide +kernel
theorem dX3_quietDay_15 : decode cX3_quietDay 15 = .ok (.iload_n 2, 1) := by decide +kernel
theorem dX3_quietDay_16 : decode cX3_quietDay 16 = .ok (.invokestatic 59, 3) := by decide +kernel
theorem dX3_quietDay_19 : decode cX3_quietDay 19 = .ok (.aload_n 0, 1) := by decide +kernel
theorem dX3_quietDay_20 : decode cX3_quietDay 20 = .ok (.aload_n 0, 1) := by decide +kernel
theorem dX3_quietDay_21 : decode cX3_quietDay 21 = .ok (.getfield 30, 3) := by decide +kernel
theorem dX3_quietDay_24 : decode cX3_quietDay 24 = .ok (.iload_n 1, 1) := by decide +kernel
theorem dX3_quietDay_25 : decode cX3_quietDay 25 = .ok (.invokestatic 59, 3) := by decide +kernel
theorem dX3_quietDay_28 : decode cX3_quietDay 28 = .ok (.if_icmp .ge 5, 3) := by decide +kernel
theorem dX3_quietDay_31 : decode cX3_quietDay 31 = .ok (.iload_n 2, 1) := by decide +kernel
theorem dX3_quietDay_32 : decode cX3_quietDay 32 = .ok (.istore_n 1, 1) := by decide +kernel
theorem dX3_quietDay_33 : decode cX3_quietDay 33 = .ok (.iinc 2 1, 3) := by decide +kernel
theorem dX3_quietDay_36 : decode cX3_quietDay 36 = .ok (.goto (-32), 3) := by decide +kernel
theorem dX3_quietDay_39 : decode cX3_quietDay 39 = .ok (.iload_n 1, 1) := by decide +kernel
theorem dX3_quietDay_40 : decode cX3_quietDay 40 = .ok (.ireturn, 1) := by decide +kernel
theorem dX3_evenPart_0 : decode cX3_evenPart 0 = .ok (.iconst 0, 1) := by decide +kernel
theorem dX3_evenPart_1 : decode cX3_evenPart 1 = .ok (.istore_n 1, 1) := by decide +kernel
theorem dX3_evenPart_2 : decode cX3_evenPart 2 = .ok (.iconst 1, 1) := by decide +kernel
theorem dX3_evenPart_3 : decode cX3_evenPart 3 = .ok (.istore_n 2, 1) := by decide +kernel
theorem dX3_evenPart_4 : decode cX3_evenPart 4 = .ok (.iload_n 2, 1) := by decide +kernel
theorem dX3_evenPart_5 : decode cX3_evenPart 5 = .ok (.aload_n 0, 1) := by decide +kernel
theorem dX3_evenPart_6 : decode cX3_evenPart 6 = .ok (.invokevirtual 26, 3) := by decide +kernel
theorem dX3_evenPart_9 : decode cX3_evenPart 9 = .ok (.if_icmp .gt 35, 3) := by decide +kernel
theorem dX3_evenPart_12 : decode cX3_evenPart 12 = .ok (.iload_n 2, 1) := by decide +kernel
theorem dX3_evenPart_13 : decode cX3_evenPart 13 = .ok (.aload_n 0, 1) := by decide +kernel
theorem dX3_evenPart_14 : decode cX3_evenPart 14 = .ok (.getfield 30, 3) := by decide +kernel
theorem dX3_evenPart_17 : decode cX3_evenPart 17 = .ok (.iconst (-1), 1) := by decide +kernel
theorem dX3_evenPart_18 : decode cX3_evenPart 18 = .ok (.ixor, 1) := by decide +kernel
theorem dX3_evenPart_19 : decode cX3_evenPart 19 = .ok (.iand, 1) := by decide +kernel
theorem dX3_evenPart_20 : decode cX3_evenPart 20 = .ok (.ifCond .ne 18, 3) := by decide +kernel
theorem dX3_evenPart_23 : decode cX3_evenPart 23 = .ok (.aload_n 0, 1) := by decide +kernel
theorem dX3_evenPart_24 : decode cX3_evenPart 24 = .ok (.iload_n 2, 1) := by decide +kernel
theorem dX3_evenPart_25 : decode cX3_evenPart 25 = .ok (.invokestatic 72, 3) := by decide +kernel
theorem dX3_evenPart_28 : decode cX3_evenPart 28 = .ok (.aload_n 0, 1) := by decide +kernel
theorem dX3_evenPart_29 : decode cX3_evenPart 29 = .ok (.iload_n 1, 1) := by decide +kernel
theorem dX3_evenPart_30 : decode cX3_evenPart 30 = .ok (.invokestatic 72, 3) := by decide +kernel
theorem dX3_evenPart_33 : decode cX3_evenPart 33 = .ok (.if_icmp .ge 5, 3) := by decide +kernel
theorem dX3_evenPart_36 : decode cX3_evenPart 36 = .ok (.iload_n 2, 1) := by decide +kernel
theorem dX3_evenPart_37 : decode cX3_evenPart 37 = .ok (.istore_n 1, 1) := by decide +kernel
theorem dX3_evenPart_38 : decode cX3_evenPart 38 = .ok (.iinc 2 1, 3) := by decide +kernel
theorem dX3_evenPart_41 : decode cX3_evenPart 41 = .ok (.goto (-37), 3) := by decide +kernel
theorem dX3_evenPart_44 : decode cX3_evenPart 44 = .ok (.iload_n 1, 1) := by decide +kernel
theorem dX3_evenPart_45 : decode cX3_evenPart 45 = .ok (.ireturn, 1) := by decide +kernel
theorem dX3_partedBy_0 : decode cX3_partedBy 0 = .ok (.aload_n 0, 1) := by decide +kernel
theorem dX3_partedBy_1 : decode cX3_partedBy 1 = .ok (.iload_n 1, 1) := by decide +kernel
theorem dX3_partedBy_2 : decode cX3_partedBy 2 = .ok (.invokevirtual 43, 3) := by decide +kernel
theorem dX3_partedBy_5 : decode cX3_partedBy 5 = .ok (.aload_n 0, 1) := by decide +kernel
theorem dX3_partedBy_6 : decode cX3_partedBy 6 = .ok (.aload_n 0, 1) := by decide +kernel
theorem dX3_partedBy_7 : decode cX3_partedBy 7 = .ok (.getfield 30, 3) := by decide +kernel
theorem dX3_partedBy_10 : decode cX3_partedBy 10 = .ok (.iload_n 1, 1) := by decide +kernel
theorem dX3_partedBy_11 : decode cX3_partedBy 11 = .ok (.iconst (-1), 1) := by decide +kernel
theorem dX3_partedBy_12 : decode cX3_partedBy 12 = .ok (.ixor, 1) := by decide +kernel
theorem dX3_partedBy_13 : decode cX3_partedBy 13 = .ok (.iand, 1) := by decide +kernel
theorem dX3_partedBy_14 : decode cX3_partedBy 14 = .ok (.invokevirtual 43, 3) := by decide +kernel
theorem dX3_partedBy_17 : decode cX3_partedBy 17 = .ok (.isub, 1) := by decide +kernel
theorem dX3_partedBy_18 : decode cX3_partedBy 18 = .ok (.invokestatic 75, 3) := by decide +kernel
theorem dX3_partedBy_21 : decode cX3_partedBy 21 = .ok (.ireturn, 1) := by decide +kernel
theorem dX3_isFewer_0 : decode cX3_isFewer 0 = .ok (.iload_n 1, 1) := by decide +kernel
theorem dX3_isFewer_1 : decode cX3_isFewer 1 = .ok (.iconst (-1), 1) := by decide +kernel
theorem dX3_isFewer_2 : decode cX3_isFewer 2 = .ok (.if_icmp .eq 14, 3) := by decide +kernel
theorem dX3_isFewer_5 : decode cX3_isFewer 5 = .ok (.iload_n 0, 1) := by decide +kernel
theorem dX3_isFewer_6 : decode cX3_isFewer 6 = .ok (.invokestatic 78, 3) := by decide +kernel
theorem dX3_isFewer_9 : decode cX3_isFewer 9 = .ok (.iload_n 1, 1) := by decide +kernel
theorem dX3_isFewer_10 : decode cX3_isFewer 10 = .ok (.invokestatic 78, 3) := by decide +kernel
theorem dX3_isFewer_13 : decode cX3_isFewer 13 = .ok (.if_icmp .ge 7, 3) := by decide +kernel
theorem dX3_isFewer_16 : decode cX3_isFewer 16 = .ok (.iconst 1, 1) := by decide +kernel
theorem dX3_isFewer_17 : decode cX3_isFewer 17 = .ok (.goto 4, 3) := by decide +kernel
theorem dX3_isFewer_20 : decode cX3_isFewer 20 = .ok (.iconst 0, 1) := by decide +kernel
theorem dX3_isFewer_21 : decode cX3_isFewer 21 = .ok (.ireturn, 1) := by decide +kernel
theorem dX3_roomOf_0 : decode cX3_roomOf 0 = .ok (.iconst 0, 1) := by decide +kernel
theorem dX3_roomOf_1 : decode cX3_roomOf 1 = .ok (.istore_n 2, 1) := by decide +kernel
theorem dX3_roomOf_2 : decode cX3_roomOf 2 = .ok (.iconst 0, 1) := by decide +kernel
theorem dX3_roomOf_3 : decode cX3_roomOf 3 = .ok (.istore_n 3, 1) := by decide +kernel
theorem dX3_roomOf_4 : decode cX3_roomOf 4 = .ok (.iload_n 3, 1) := by decide +kernel
theorem dX3_roomOf_5 : decode cX3_roomOf 5 = .ok (.aload_n 0, 1) := by decide +kernel
theorem dX3_roomOf_6 : decode cX3_roomOf 6 = .ok (.getfield 9, 3) := by decide +kernel
theorem dX3_roomOf_9 : decode cX3_roomOf 9 = .ok (.if_icmp .ge 41, 3) := by decide +kernel
theorem dX3_roomOf_12 : decode cX3_roomOf 12 = .ok (.iload_n 1, 1) := by decide +kernel
theorem dX3_roomOf_13 : decode cX3_roomOf 13 = .ok (.iload_n 3, 1) := by decide +kernel
theorem dX3_roomOf_14 : decode cX3_roomOf 14 = .ok (.ishr, 1) := by decide +kernel
theorem dX3_roomOf_15 : decode cX3_roomOf 15 = .ok (.iconst 1, 1) := by decide +kernel
theorem dX3_roomOf_16 : decode cX3_roomOf 16 = .ok (.iand, 1) := by decide +kernel
theorem dX3_roomOf_17 : decode cX3_roomOf 17 = .ok (.iconst 1, 1) := by decide +kernel
theorem dX3_roomOf_18 : decode cX3_roomOf 18 = .ok (.if_icmp .ne 26, 3) := by decide +kernel
theorem dX3_roomOf_21 : decode cX3_roomOf 21 = .ok (.iload_n 2, 1) := by decide +kernel
theorem dX3_roomOf_22 : decode cX3_roomOf 22 = .ok (.iconst 0, 1) := by decide +kernel
theorem dX3_roomOf_23 : decode cX3_roomOf 23 = .ok (.aload_n 0, 1) := by decide +kernel
theorem dX3_roomOf_24 : decode cX3_roomOf 24 = .ok (.getfield 66, 3) := by decide +kernel
theorem dX3_roomOf_27 : decode cX3_roomOf 27 = .ok (.iload_n 3, 1) := by decide +kernel
theorem dX3_roomOf_28 : decode cX3_roomOf 28 = .ok (.iaload, 1) := by decide +kernel
theorem dX3_roomOf_29 : decode cX3_roomOf 29 = .ok (.aload_n 0, 1) := by decide +kernel
theorem dX3_roomOf_30 : decode cX3_roomOf 30 = .ok (.iload_n 3, 1) := by decide +kernel
theorem dX3_roomOf_31 : decode cX3_roomOf 31 = .ok (.aload_n 0, 1) := by decide +kernel
theorem dX3_roomOf_32 : decode cX3_roomOf 32 = .ok (.getfield 63, 3) := by decide +kernel
theorem dX3_roomOf_35 : decode cX3_roomOf 35 = .ok (.invokevirtual 56, 3) := by decide +kernel
theorem dX3_roomOf_38 : decode cX3_roomOf 38 = .ok (.isub, 1) := by decide +kernel
theorem dX3_roomOf_39 : decode cX3_roomOf 39 = .ok (.invokestatic 50, 3) := by decide +kernel
theorem dX3_roomOf_42 : decode cX3_roomOf 42 = .ok (.iadd, 1) := by decide +kernel
theorem dX3_roomOf_43 : decode cX3_roomOf 43 = .ok (.istore_n 2, 1) := by decide +kernel
theorem dX3_roomOf_44 : decode cX3_roomOf 44 = .ok (.iinc 3 1, 3) := by decide +kernel
theorem dX3_roomOf_47 : decode cX3_roomOf 47 = .ok (.goto (-43), 3) := by decide +kernel
theorem dX3_roomOf_50 : decode cX3_roomOf 50 = .ok (.iload_n 2, 1) := by decide +kernel
theorem dX3_roomOf_51 : decode cX3_roomOf 51 = .ok (.ireturn, 1) := by decide +kernel
theorem dX4_init_0 : decode cX4_init 0 = .ok (.aload_n 0, 1) := by decide +kernel
theorem dX4_init_1 : decode cX4_init 1 = .ok (.invokespecial 3, 3) := by decide +kernel
theorem dX4_init_4 : decode cX4_init 4 = .ok (.aload_n 0, 1) := by decide +kernel
theorem dX4_init_5 : decode cX4_init 5 = .ok (.bipush 8, 2) := by decide +kernel
theorem dX4_init_7 : decode cX4_init 7 = .ok (.newarray .int, 2) := by decide +kernel
theorem dX4_init_9 : decode cX4_init 9 = .ok (.putfield 9, 3) := by decide +kernel
theorem dX4_init_12 : decode cX4_init 12 = .ok (.aload_n 0, 1) := by decide +kernel
theorem dX4_init_13 : decode cX4_init 13 = .ok (.sipush 256, 3) := by decide +kernel
theorem dX4_init_16 : decode cX4_init 16 = .ok (.newarray .int, 2) := by decide +kernel
theorem dX4_init_18 : decode cX4_init 18 = .ok (.putfield 15, 3) := by decide +kernel
theorem dX4_init_21 : decode cX4_init 21 = .ok (.aload_n 0, 1) := by decide +kernel
theorem dX4_init_22 : decode cX4_init 22 = .ok (.sipush 256, 3) := by decide +kernel
theorem dX4_init_25 : decode cX4_init 25 = .ok (.newarray .int, 2) := by decide +kernel
theorem dX4_init_27 : decode cX4_init 27 = .ok (.putfield 18, 3) := by decide +kernel
theorem dX4_init_30 : decode cX4_init 30 = .ok (.return_, 1) := by decide +kernel
theorem dX4_fewestPayments_0 : decode cX4_fewestPayments 0 = .ok (.aload_n 0, 1) := by decide +kernel
theorem dX4_fewestPayments_1 : decode cX4_fewestPayments 1 = .ok (.aload_n 1, 1) := by decide +kernel
theorem dX4_fewestPayments_2 : decode cX4_fewestPayments 2 = .ok (.invokevirtual 21, 3) := by decide +kernel
theorem dX4_fewestPayments_5 : decode cX4_fewestPayments 5 = .ok (.aload_n 0, 1) := by decide +kernel
theorem dX4_fewestPayments_6 : decode cX4_fewestPayments 6 = .ok (.getfield 15, 3) := by decide +kernel
theorem dX4_fewestPayments_9 : decode cX4_fewestPayments 9 = .ok (.iconst 0, 1) := by decide +kernel
theorem dX4_fewestPayments_10 : decode cX4_fewestPayments 10 = .ok (.iconst 0, 1) := by decide +kernel
theorem dX4_fewestPayments_11 : decode cX4_fewestPayments 11 = .ok (.iastore, 1) := by decide +kernel
theorem dX4_fewestPayments_12 : decode cX4_fewestPayments 12 = .ok (.aload_n 0, 1) := by decide +kernel
theorem dX4_fewestPayments_13 : decode cX4_fewestPayments 13 = .ok (.getfield 18, 3) := by decide +kernel
theorem dX4_fewestPayments_16 : decode cX4_fewestPayments 16 = .ok (.iconst 0, 1) := by decide +kernel
theorem dX4_fewestPayments_17 : decode cX4_fewestPayments 17 = .ok (.iconst 0, 1) := by decide +kernel
theorem dX4_fewestPayments_18 : decode cX4_fewestPayments 18 = .ok (.iastore, 1) := by decide +kernel
theorem dX4_fewestPayments_19 : decode cX4_fewestPayments 19 = .ok (.iconst 1, 1) := by decide +kernel
theorem dX4_fewestPayments_20 : decode cX4_fewestPayments 20 = .ok (.istore_n 2, 1) := by decide +kernel
theorem dX4_fewestPayments_21 : decode cX4_fewestPayments 21 = .ok (.iload_n 2, 1) := by decide +kernel
theorem dX4_fewestPayments_22 : decode cX4_fewestPayments 22 = .ok (.aload_n 1, 1) := by decide +kernel
theorem dX4_fewestPayments_23 : decode cX4_fewestPayments 23 = .ok (.invokevirtual 25, 3) := by decide +kernel
theorem dX4_fewestPayments_26 : decode cX4_fewestPayments 26 = .ok (.if_icmp .gt 104, 3) := by decide +kernel
theorem dX4_fewestPayments_29 : decode cX4_fewestPayments 29 = .ok (.iconst 0, 1) := by decide +kernel
theorem dX4_fewestPayments_30 : decode cX4_fewestPayments 30 = .ok (.istore_n 3, 1) := by decide +kernel
theorem dX4_fewestPayments_31 : decode cX4_fewestPayments 31 = .ok (.iconst 0, 1) := by decide +kernel
theorem dX4_fewestPayments_32 : decode cX4_fewestPayments 32 = .ok (.istore 4, 2) := by decide +kernel
theorem dX4_fewestPayments_34 : decode cX4_fewestPayments 34 = .ok (.iload 4, 2) := by decide +kernel
theorem dX4_fewestPayments_36 : decode cX4_fewestPayments 36 = .ok (.aload_n 1, 1) := by decide +kernel
theorem dX4_fewestPayments_37 : decode cX4_fewestPayments 37 = .ok (.getfield 31, 3) := by decide +kernel
theorem dX4_fewestPayments_40 : decode cX4_fewestPayments 40 = .ok (.if_icmp .ge 62, 3) := by decide +kernel
theorem dX4_fewestPayments_43 : decode cX4_fewestPayments 43 = .ok (.iload_n 2, 1) := by decide +kernel
theorem dX4_fewestPayments_44 : decode cX4_fewestPayments 44 = .ok (.iload 4, 2) := by decide +kernel
theorem dX4_fewestPayments_46 : decode cX4_fewestPayments 46 = .ok (.ishr, 1) := by decide +kernel
theorem dX4_fewestPayments_47 : decode cX4_fewestPayments 47 = .ok (.iconst 1, 1) := by decide +kernel
theorem dX4_fewestPayments_48 : decode cX4_fewestPayments 48 = .ok (.iand, 1) := by decide +kernel
theorem dX4_fewestPayments_49 : decode cX4_fewestPayments 49 = .ok (.iconst 1, 1) := by decide +kernel
theorem dX4_fewestPayments_50 : decode cX4_fewestPayments 50 = .ok (.if_icmp .ne 46, 3) := by decide +kernel
theorem dX4_fewestPayments_53 : decode cX4_fewestPayments 53 = .ok (.iload_n 2, 1) := by decide +kernel
theorem dX4_fewestPayments_54 : decode cX4_fewestPayments 54 = .ok (.iconst 1, 1) := by decide +kernel
theorem dX4_fewestPayments_55 : decode cX4_fewestPayments 55 = .ok (.iload 4, 2) := by decide +kernel
theorem dX4_fewestPayments_57 : decode cX4_fewestPayments 57 = .ok (.ishl, 1) := by decide +kernel
theorem dX4_fewestPayments_58 : decode cX4_fewestPayments 58 = .ok (.iconst (-1), 1) := by decide +kernel
theorem dX4_fewestPayments_59 : decode cX4_fewestPayments 59 = .ok (.ixor, 1) := by decide +kernel
theorem dX4_fewestPayments_60 : decode cX4_fewestPayments 60 = .ok (.iand, 1) := by decide +kernel
theorem dX4_fewestPayments_61 : decode cX4_fewestPayments 61 = .ok (.istore 5, 2) := by decide +kernel
theorem dX4_fewestPayments_63 : decode cX4_fewestPayments 63 = .ok (.iload_n 3, 1) := by decide +kernel
theorem dX4_fewestPayments_64 : decode cX4_fewestPayments 64 = .ok (.aload_n 0, 1) := by decide +kernel
theorem dX4_fewestPayments_65 : decode cX4_fewestPayments 65 = .ok (.getfield 18, 3) := by decide +kernel
theorem dX4_fewestPayments_68 : decode cX4_fewestPayments 68 = .ok (.iload 5, 2) := by decide +kernel
theorem dX4_fewestPayments_70 : decode cX4_fewestPayments 70 = .ok (.iaload, 1) := by decide +kernel
theorem dX4_fewestPayments_71 : decode cX4_fewestPayments 71 = .ok (.invokestatic 35, 3) := by decide +kernel
theorem dX4_fewestPayments_74 : decode cX4_fewestPayments 74 = .ok (.istore_n 3, 1) := by decide +kernel
theorem dX4_fewestPayments_75 : decode cX4_fewestPayments 75 = .ok (.aload_n 0, 1) := by decide +kernel
theorem dX4_fewestPayments_76 : decode cX4_fewestPayments 76 = .ok (.getfield 15, 3) := by decide +kernel
theorem dX4_fewestPayments_79 : decode cX4_fewestPayments 79 = .ok (.iload_n 2, 1) := by decide +kernel
theorem dX4_fewestPayments_80 : decode cX4_fewestPayments 80 = .ok (.aload_n 0, 1) := by decide +kernel
theorem dX4_fewestPayments_81 : decode cX4_fewestPayments 81 = .ok (.getfield 15, 3) := by decide +kernel
theorem dX4_fewestPayments_84 : decode cX4_fewestPayments 84 = .ok (.iload 5, 2) := by decide +kernel
theorem dX4_fewestPayments_86 : decode cX4_fewestPayments 86 = .ok (.iaload, 1) := by decide +kernel
theorem dX4_fewestPayments_87 : decode cX4_fewestPayments 87 = .ok (.aload_n 0, 1) := by decide +kernel
theorem dX4_fewestPayments_88 : decode cX4_fewestPayments 88 = .ok (.getfield 9, 3) := by decide +kernel
theorem dX4_fewestPayments_91 : decode cX4_fewestPayments 91 = .ok (.iload 4, 2) := by decide +kernel
theorem dX4_fewestPayments_93 : decode cX4_fewestPayments 93 = .ok (.iaload, 1) := by decide +kernel
theorem dX4_fewestPayments_94 : decode cX4_fewestPayments 94 = .ok (.iadd, 1) := by decide +kernel
theorem dX4_fewestPayments_95 : decode cX4_fewestPayments 95 = .ok (.iastore, 1) := by decide +kernel
theorem dX4_fewestPayments_96 : decode cX4_fewestPayments 96 = .ok (.iinc 4 1, 3) := by decide +kernel
theorem dX4_fewestPayments_99 : decode cX4_fewestPayments 99 = .ok (.goto (-65), 3) := by decide +kernel
theorem dX4_fewestPayments_102 : decode cX4_fewestPayments 102 = .ok (.aload_n 0, 1) := by decide +kernel
theorem dX4_fewestPayments_103 : decode cX4_fewestPayments 103 = .ok (.getfield 18, 3) := by decide +kernel
theorem dX4_fewestPayments_106 : decode cX4_fewestPayments 106 = .ok (.iload_n 2, 1) := by decide +kernel
theorem dX4_fewestPayments_107 : decode cX4_fewestPayments 107 = .ok (.aload_n 0, 1) := by decide +kernel
theorem dX4_fewestPayments_108 : decode cX4_fewestPayments 108 = .ok (.getfield 15, 3) := by decide +kernel
theorem dX4_fewestPayments_111 : decode cX4_fewestPayments 111 = .ok (.iload_n 2, 1) := by decide +kernel
theorem dX4_fewestPayments_112 : decode cX4_fewestPayments 112 = .ok (.iaload, 1) := by decide +kernel
theorem dX4_fewestPayments_113 : decode cX4_fewestPayments 113 = .ok (.ifCond .ne 9, 3) := by decide +kernel
theorem dX4_fewestPayments_116 : decode cX4_fewestPayments 116 = .ok (.iload_n 3, 1) := by decide +kernel
theorem dX4_fewestPayments_117 : decode cX4_fewestPayments 117 = .ok (.iconst 1, 1) := by decide +kernel
theorem dX4_fewestPayments_118 : decode cX4_fewestPayments 118 = .ok (.iadd, 1) := by decide +kernel
theorem dX4_fewestPayments_119 : decode cX4_fewestPayments 119 = .ok (.goto 4, 3) := by decide +kernel
theorem dX4_fewestPayments_122 : decode cX4_fewestPayments 122 = .ok (.iload_n 3, 1) := by decide +kernel
theorem dX4_fewestPayments_123 : decode cX4_fewestPayments 123 = .ok (.iastore, 1) := by decide +kernel
theorem dX4_fewestPayments_124 : decode cX4_fewestPayments 124 = .ok (.iinc 2 1, 3) := by decide +kernel
theorem dX4_fewestPayments_127 : decode cX4_fewestPayments 127 = .ok (.goto (-106), 3) := by decide +kernel
theorem dX4_fewestPayments_130 : decode cX4_fewestPayments 130 = .ok (.aload_n 1, 1) := by decide +kernel
theorem dX4_fewestPayments_131 : decode cX4_fewestPayments 131 = .ok (.getfield 31, 3) := by decide +kernel
theorem dX4_fewestPayments_134 : decode cX4_fewestPayments 134 = .ok (.aload_n 0, 1) := by decide +kernel
theorem dX4_fewestPayments_135 : decode cX4_fewestPayments 135 = .ok (.getfield 18, 3) := by decide +kernel
theorem dX4_fewestPayments_138 : decode cX4_fewestPayments 138 = .ok (.aload_n 1, 1) := by decide +kernel
theorem dX4_fewestPayments_139 : decode cX4_fewestPayments 139 = .ok (.invokevirtual 25, 3) := by decide +kernel
theorem dX4_fewestPayments_142 : decode cX4_fewestPayments 142 = .ok (.iaload, 1) := by decide +kernel
theorem dX4_fewestPayments_143 : decode cX4_fewestPayments 143 = .ok (.isub, 1) := by decide +kernel
theorem dX4_fewestPayments_144 : decode cX4_fewestPayments 144 = .ok (.ireturn, 1) := by decide +kernel
theorem dX4_settle_0 : decode cX4_settle 0 = .ok (.aload_n 0, 1) := by decide +kernel
theorem dX4_settle_1 : decode cX4_settle 1 = .ok (.aload_n 1, 1) := by decide +kernel
theorem dX4_settle_2 : decode cX4_settle 2 = .ok (.invokevirtual 21, 3) := by decide +kernel
theorem dX4_settle_5 : decode cX4_settle 5 = .ok (.aload_n 1, 1) := by decide +kernel
theorem dX4_settle_6 : decode cX4_settle 6 = .ok (.getfield 41, 3) := by decide +kernel
theorem dX4_settle_9 : decode cX4_settle 9 = .ok (.iconst 0, 1) := by decide +kernel
theorem dX4_settle_10 : decode cX4_settle 10 = .ok (.invokestatic 44, 3) := by decide +kernel
theorem dX4_settle_13 : decode cX4_settle 13 = .ok (.iconst 0, 1) := by decide +kernel
theorem dX4_settle_14 : decode cX4_settle 14 = .ok (.istore_n 2, 1) := by decide +kernel
theorem dX4_settle_15 : decode cX4_settle 15 = .ok (.iload_n 2, 1) := by decide +kernel
theorem dX4_settle_16 : decode cX4_settle 16 = .ok (.bipush 8, 2) := by decide +kernel
theorem dX4_settle_18 : decode cX4_settle 18 = .ok (.if_icmp .ge 156, 3) := by decide +kernel
theorem dX4_settle_21 : decode cX4_settle 21 = .ok (.iconst 0, 1) := by decide +kernel
theorem dX4_settle_22 : decode cX4_settle 22 = .ok (.istore_n 3, 1) := by decide +kernel
theorem dX4_settle_23 : decode cX4_settle 23 = .ok (.iconst 0, 1) := by decide +kernel
theorem dX4_settle_24 : decode cX4_settle 24 = .ok (.istore 4, 2) := by decide +kernel
theorem dX4_settle_26 : decode cX4_settle 26 = .ok (.iconst 1, 1) := by decide +kernel
theorem dX4_settle_27 : decode cX4_settle 27 = .ok (.istore 5, 2) := by decide +kernel
theorem dX4_settle_29 : decode cX4_settle 29 = .ok (.iload 5, 2) := by decide +kernel
theorem dX4_settle_31 : decode cX4_settle 31 = .ok (.aload_n 1, 1) := by decide +kernel
theorem dX4_settle_32 : decode cX4_settle 32 = .ok (.getfield 31, 3) := by decide +kernel
theorem dX4_settle_35 : decode cX4_settle 35 = .ok (.if_icmp .ge 58, 3) := by decide +kernel
theorem dX4_settle_38 : decode cX4_settle 38 = .ok (.aload_n 0, 1) := by decide +kernel
theorem dX4_settle_39 : decode cX4_settle 39 = .ok (.getfield 9, 3) := by decide +kernel
theorem dX4_settle_42 : decode cX4_settle 42 = .ok (.iload 5, 2) := by decide +kernel
theorem dX4_settle_44 : decode cX4_settle 44 = .ok (.iaload, 1) := by decide +kernel
theorem dX4_settle_45 : decode cX4_settle 45 = .ok (.aload_n 0, 1) := by decide +kernel
theorem dX4_settle_46 : decode cX4_settle 46 = .ok (.getfield 9, 3) := by decide +kernel
theorem dX4_settle_49 : decode cX4_settle 49 = .ok (.iload_n 3, 1) := by decide +kernel
theorem dX4_settle_50 : decode cX4_settle 50 = .ok (.iaload, 1) := by decide +kernel
theorem dX4_settle_51 : decode cX4_settle 51 = .ok (.if_icmp .ge 8, 3) := by decide +kernel
theorem dX4_settle_54 : decode cX4_settle 54 = .ok (.iload 5, 2) := by decide +kernel
theorem dX4_settle_56 : decode cX4_settle 56 = .ok (.goto 4, 3) := by decide +kernel
theorem dX4_settle_59 : decode cX4_settle 59 = .ok (.iload_n 3, 1) := by decide +kernel
theorem dX4_settle_60 : decode cX4_settle 60 = .ok (.istore_n 3, 1) := by decide +kernel
theorem dX4_settle_61 : decode cX4_settle 61 = .ok (.aload_n 0, 1) := by decide +kernel
theorem dX4_settle_62 : decode cX4_settle 62 = .ok (.getfield 9, 3) := by decide +kernel
theorem dX4_settle_65 : decode cX4_settle 65 = .ok (.iload 5, 2) := by decide +kernel
theorem dX4_settle_67 : decode cX4_settle 67 = .ok (.iaload, 1) := by decide +kernel
theorem dX4_settle_68 : decode cX4_settle 68 = .ok (.aload_n 0, 1) := by decide +kernel
theorem dX4_settle_69 : decode cX4_settle 69 = .ok (.getfield 9, 3) := by decide +kernel
theorem dX4_settle_72 : decode cX4_settle 72 = .ok (.iload 4, 2) := by decide +kernel
theorem dX4_settle_74 : decode cX4_settle 74 = .ok (.iaload, 1) := by decide +kernel
theorem dX4_settle_75 : decode cX4_settle 75 = .ok (.if_icmp .le 8, 3) := by decide +kernel
theorem dX4_settle_78 : decode cX4_settle 78 = .ok (.iload 5, 2) := by decide +kernel
theorem dX4_settle_80 : decode cX4_settle 80 = .ok (.goto 5, 3) := by decide +kernel
theorem dX4_settle_83 : decode cX4_settle 83 = .ok (.iload 4, 2) := by decide +kernel
theorem dX4_settle_85 : decode cX4_settle 85 = .ok (.istore 4, 2) := by decide +kernel
theorem dX4_settle_87 : decode cX4_settle 87 = .ok (.iinc 5 1, 3) := by decide +kernel
theorem dX4_settle_90 : decode cX4_settle 90 = .ok (.goto (-61), 3) := by decide +kernel
theorem dX4_settle_93 : decode cX4_settle 93 = .ok (.aload_n 1, 1) := by decide +kernel
theorem dX4_settle_94 : decode cX4_settle 94 = .ok (.getfield 31, 3) := by decide +kernel
theorem dX4_settle_97 : decode cX4_settle 97 = .ok (.ifCond .eq 13, 3) := by decide +kernel
theorem dX4_settle_100 : decode cX4_settle 100 = .ok (.aload_n 0, 1) := by decide +kernel
theorem dX4_settle_101 : decode cX4_settle 101 = .ok (.getfield 9, 3) := by decide +kernel
theorem dX4_settle_104 : decode cX4_settle 104 = .ok (.iload 4, 2) := by decide +kernel
theorem dX4_settle_106 : decode cX4_settle 106 = .ok (.iaload, 1) := by decide +kernel
theorem dX4_settle_107 : decode cX4_settle 107 = .ok (.ifCond .gt 5, 3) := by decide +kernel
theorem dX4_settle_110 : decode cX4_settle 110 = .ok (.iload_n 2, 1) := by decide +kernel
theorem dX4_settle_111 : decode cX4_settle 111 = .ok (.ireturn, 1) := by decide +kernel
theorem dX4_settle_112 : decode cX4_settle 112 = .ok (.aload_n 0, 1) := by decide +kernel
theorem dX4_settle_113 : decode cX4_settle 113 = .ok (.getfield 9, 3) := by decide +kernel
theorem dX4_settle_116 : decode cX4_settle 116 = .ok (.iload_n 3, 1) := by decide +kernel
theorem dX4_settle_117 : decode cX4_settle 117 = .ok (.iaload, 1) := by decide +kernel
theorem dX4_settle_118 : decode cX4_settle 118 = .ok (.ineg, 1) := by decide +kernel
theorem dX4_settle_119 : decode cX4_settle 119 = .ok (.aload_n 0, 1) := by decide +kernel
theorem dX4_settle_120 : decode cX4_settle 120 = .ok (.getfield 9, 3) := by decide +kernel
theorem dX4_settle_123 : decode cX4_settle 123 = .ok (.iload 4, 2) := by decide +kernel
theorem dX4_settle_125 : decode cX4_settle 125 = .ok (.iaload, 1) := by decide +kernel
theorem dX4_settle_126 : decode cX4_settle 126 = .ok (.invokestatic 50, 3) := by decide +kernel
theorem dX4_settle_129 : decode cX4_settle 129 = .ok (.istore 5, 2) := by decide +kernel
theorem dX4_settle_131 : decode cX4_settle 131 = .ok (.aload_n 0, 1) := by decide +kernel
theorem dX4_settle_132 : decode cX4_settle 132 = .ok (.getfield 9, 3) := by decide +kernel
theorem dX4_settle_135 : decode cX4_settle 135 = .ok (.iload_n 3, 1) := by decide +kernel
theorem dX4_settle_136 : decode cX4_settle 136 = .ok (.dup2, 1) := by decide +kernel
theorem dX4_settle_137 : decode cX4_settle 137 = .ok (.iaload, 1) := by decide +kernel
theorem dX4_settle_138 : decode cX4_settle 138 = .ok (.iload 5, 2) := by decide +kernel
theorem dX4_settle_140 : decode cX4_settle 140 = .ok (.iadd, 1) := by decide +kernel
theorem dX4_settle_141 : decode cX4_settle 141 = .ok (.iastore, 1) := by decide +kernel
theorem dX4_settle_142 : decode cX4_settle 142 = .ok (.aload_n 0, 1) := by decide +kernel
theorem dX4_settle_143 : decode cX4_settle 143 = .ok (.getfield 9, 3) := by decide +kernel
theorem dX4_settle_146 : decode cX4_settle 146 = .ok (.iload 4, 2) := by decide +kernel
theorem dX4_settle_148 : decode cX4_settle 148 = .ok (.dup2, 1) := by decide +kernel
theorem dX4_settle_149 : decode cX4_settle 149 = .ok (.iaload, 1) := by decide +kernel
theorem dX4_settle_150 : decode cX4_settle 150 = .ok (.iload 5, 2) := by decide +kernel
theorem dX4_settle_152 : decode cX4_settle 152 = .ok (.isub, 1) := by decide +kernel
theorem dX4_settle_153 : decode cX4_settle 153 = .ok (.iastore, 1) := by decide +kernel
theorem dX4_settle_154 : decode cX4_settle 154 = .ok (.aload_n 1, 1) := by decide +kernel
theorem dX4_settle_155 : decode cX4_settle 155 = .ok (.getfield 41, 3) := by decide +kernel
theorem dX4_settle_158 : decode cX4_settle 158 = .ok (.iload_n 3, 1) := by decide +kernel
theorem dX4_settle_159 : decode cX4_settle 159 = .ok (.bipush 8, 2) := by decide +kernel
theorem dX4_settle_161 : decode cX4_settle 161 = .ok (.imul, 1) := by decide +kernel
theorem dX4_settle_162 : decode cX4_settle 162 = .ok (.iload 4, 2) := by decide +kernel
theorem dX4_settle_164 : decode cX4_settle 164 = .ok (.iadd, 1) := by decide +kernel
theorem dX4_settle_165 : decode cX4_settle 165 = .ok (.iload 5, 2) := by decide +kernel
theorem dX4_settle_167 : decode cX4_settle 167 = .ok (.iastore, 1) := by decide +kernel
theorem dX4_settle_168 : decode cX4_settle 168 = .ok (.iinc 2 1, 3) := by decide +kernel
theorem dX4_settle_171 : decode cX4_settle 171 = .ok (.goto (-156), 3) := by decide +kernel
theorem dX4_settle_174 : decode cX4_settle 174 = .ok (.bipush 8, 2) := by decide +kernel
theorem dX4_settle_176 : decode cX4_settle 176 = .ok (.ireturn, 1) := by decide +kernel
theorem dX4_shortestRing_0 : decode cX4_shortestRing 0 = .ok (.iconst 1, 1) := by decide +kernel
theorem dX4_shortestRing_1 : decode cX4_shortestRing 1 = .ok (.iload_n 2, 1) := by decide +kernel
theorem dX4_shortestRing_2 : decode cX4_shortestRing 2 = .ok (.ishl, 1) := by decide +kernel
theorem dX4_shortestRing_3 : decode cX4_shortestRing 3 = .ok (.istore_n 3, 1) := by decide +kernel
theorem dX4_shortestRing_4 : decode cX4_shortestRing 4 = .ok (.iconst 1, 1) := by decide +kernel
theorem dX4_shortestRing_5 : decode cX4_shortestRing 5 = .ok (.istore 4, 2) := by decide +kernel
theorem dX4_shortestRing_7 : decode cX4_shortestRing 7 = .ok (.iload 4, 2) := by decide +kernel
theorem dX4_shortestRing_9 : decode cX4_shortestRing 9 = .ok (.aload_n 1, 1) := by decide +kernel
theorem dX4_shortestRing_10 : decode cX4_shortestRing 10 = .ok (.getfield 31, 3) := by decide +kernel
theorem dX4_shortestRing_13 : decode cX4_shortestRing 13 = .ok (.if_icmp .gt 71, 3) := by decide +kernel
theorem dX4_shortestRing_16 : decode cX4_shortestRing 16 = .ok (.iconst 0, 1) := by decide +kernel
theorem dX4_shortestRing_17 : decode cX4_shortestRing 17 = .ok (.istore 5, 2) := by decide +kernel
theorem dX4_shortestRing_19 : decode cX4_shortestRing 19 = .ok (.iconst 0, 1) := by decide +kernel
theorem dX4_shortestRing_20 : decode cX4_shortestRing 20 = .ok (.istore 6, 2) := by decide +kernel
theorem dX4_shortestRing_22 : decode cX4_shortestRing 22 = .ok (.iload 6, 2) := by decide +kernel
theorem dX4_shortestRing_24 : decode cX4_shortestRing 24 = .ok (.aload_n 1, 1) := by decide +kernel
theorem dX4_shortestRing_25 : decode cX4_shortestRing 25 = .ok (.getfield 31, 3) := by decide +kernel
theorem dX4_shortestRing_28 : decode cX4_shortestRing 28 = .ok (.if_icmp .ge 34, 3) := by decide +kernel
theorem dX4_shortestRing_31 : decode cX4_shortestRing 31 = .ok (.iload 5, 2) := by decide +kernel
theorem dX4_shortestRing_33 : decode cX4_shortestRing 33 = .ok (.iload_n 3, 1) := by decide +kernel
theorem dX4_shortestRing_34 : decode cX4_shortestRing 34 = .ok (.iload 6, 2) := by decide +kernel
theorem dX4_shortestRing_36 : decode cX4_shortestRing 36 = .ok (.ishr, 1) := by decide +kernel
theorem dX4_shortestRing_37 : decode cX4_shortestRing 37 = .ok (.iconst 1, 1) := by decide +kernel
theorem dX4_shortestRing_38 : decode cX4_shortestRing 38 = .ok (.iand, 1) := by decide +kernel
theorem dX4_shortestRing_39 : decode cX4_shortestRing 39 = .ok (.iconst 1, 1) := by decide +kernel
theorem dX4_shortestRing_40 : decode cX4_shortestRing 40 = .ok (.if_icmp .ne 12, 3) := by decide +kernel
theorem dX4_shortestRing_43 : decode cX4_shortestRing 43 = .ok (.aload_n 1, 1) := by decide +kernel
theorem dX4_shortestRing_44 : decode cX4_shortestRing 44 = .ok (.iload 6, 2) := by decide +kernel
theorem dX4_shortestRing_46 : decode cX4_shortestRing 46 = .ok (.invokestatic 53, 3) := by decide +kernel
theorem dX4_shortestRing_49 : decode cX4_shortestRing 49 = .ok (.goto 4, 3) := by decide +kernel
theorem dX4_shortestRing_52 : decode cX4_shortestRing 52 = .ok (.iconst 0, 1) := by decide +kernel
theorem dX4_shortestRing_53 : decode cX4_shortestRing 53 = .ok (.ior, 1) := by decide +kernel
theorem dX4_shortestRing_54 : decode cX4_shortestRing 54 = .ok (.istore 5, 2) := by decide +kernel
theorem dX4_shortestRing_56 : decode cX4_shortestRing 56 = .ok (.iinc 6 1, 3) := by decide +kernel
theorem dX4_shortestRing_59 : decode cX4_shortestRing 59 = .ok (.goto (-37), 3) := by decide +kernel
theorem dX4_shortestRing_62 : decode cX4_shortestRing 62 = .ok (.iload 5, 2) := by decide +kernel
theorem dX4_shortestRing_64 : decode cX4_shortestRing 64 = .ok (.iload_n 2, 1) := by decide +kernel
theorem dX4_shortestRing_65 : decode cX4_shortestRing 65 = .ok (.ishr, 1) := by decide +kernel
theorem dX4_shortestRing_66 : decode cX4_shortestRing 66 = .ok (.iconst 1, 1) := by decide +kernel
theorem dX4_shortestRing_67 : decode cX4_shortestRing 67 = .ok (.iand, 1) := by decide +kernel
theorem dX4_shortestRing_68 : decode cX4_shortestRing 68 = .ok (.iconst 1, 1) := by decide +kernel
theorem dX4_shortestRing_69 : decode cX4_shortestRing 69 = .ok (.if_icmp .ne 6, 3) := by decide +kernel
theorem dX4_shortestRing_72 : decode cX4_shortestRing 72 = .ok (.iload 4, 2) := by decide +kernel
theorem dX4_shortestRing_74 : decode cX4_shortestRing 74 = .ok (.ireturn, 1) := by decide +kernel
theorem dX4_shortestRing_75 : decode cX4_shortestRing 75 = .ok (.iload 5, 2) := by decide +kernel
theorem dX4_shortestRing_77 : decode cX4_shortestRing 77 = .ok (.istore_n 3, 1) := by decide +kernel
theorem dX4_shortestRing_78 : decode cX4_shortestRing 78 = .ok (.iinc 4 1, 3) := by decide +kernel
theorem dX4_shortestRing_81 : decode cX4_shortestRing 81 = .ok (.goto (-74), 3) := by decide +kernel
theorem dX4_shortestRing_84 : decode cX4_shortestRing 84 = .ok (.iconst (-1), 1) := by decide +kernel
theorem dX4_shortestRing_85 : decode cX4_shortestRing 85 = .ok (.ireturn, 1) := by decide +kernel
theorem dX4_mutual_0 : decode cX4_mutual 0 = .ok (.iconst 0, 1) := by decide +kernel
theorem dX4_mutual_1 : decode cX4_mutual 1 = .ok (.istore_n 2, 1) := by decide +kernel
theorem dX4_mutual_2 : decode cX4_mutual 2 = .ok (.iconst 0, 1) := by decide +kernel
theorem dX4_mutual_3 : decode cX4_mutual 3 = .ok (.istore_n 3, 1) := by decide +kernel
theorem dX4_mutual_4 : decode cX4_mutual 4 = .ok (.iload_n 3, 1) := by decide +kernel
theorem dX4_mutual_5 : decode cX4_mutual 5 = .ok (.aload_n 1, 1) := by decide +kernel
theorem dX4_mutual_6 : decode cX4_mutual 6 = .ok (.getfield 31, 3) := by decide +kernel
theorem dX4_mutual_9 : decode cX4_mutual 9 = .ok (.if_icmp .ge 54, 3) := by decide +kernel
theorem dX4_mutual_12 : decode cX4_mutual 12 = .ok (.iconst 0, 1) := by decide +kernel
theorem dX4_mutual_13 : decode cX4_mutual 13 = .ok (.istore 4, 2) := by decide +kernel
theorem dX4_mutual_15 : decode cX4_mutual 15 = .ok (.iload 4, 2) := by decide +kernel
theorem dX4_mutual_17 : decode cX4_mutual 17 = .ok (.iload_n 3, 1) := by decide +kernel
theorem dX4_mutual_18 : decode cX4_mutual 18 = .ok (.if_icmp .ge 39, 3) := by decide +kernel
theorem dX4_mutual_21 : decode cX4_mutual 21 = .ok (.iload_n 2, 1) := by decide +kernel
theorem dX4_mutual_22 : decode cX4_mutual 22 = .ok (.aload_n 1, 1) := by decide +kernel
theorem dX4_mutual_23 : decode cX4_mutual 23 = .ok (.getfield 41, 3) := by decide +kernel
theorem dX4_mutual_26 : decode cX4_mutual 26 = .ok (.iload_n 3, 1) := by decide +kernel
theorem dX4_mutual_27 : decode cX4_mutual 27 = .ok (.bipush 8, 2) := by decide +kernel
theorem dX4_mutual_29 : decode cX4_mutual 29 = .ok (.imul, 1) := by decide +kernel
theorem dX4_mutual_30 : decode cX4_mutual 30 = .ok (.iload 4, 2) := by decide +kernel
theorem dX4_mutual_32 : decode cX4_mutual 32 = .ok (.iadd, 1) := by decide +kernel
theorem dX4_mutual_33 : decode cX4_mutual 33 = .ok (.iaload, 1) := by decide +kernel
theorem dX4_mutual_34 : decode cX4_mutual 34 = .ok (.aload_n 1, 1) := by decide +kernel
theorem dX4_mutual_35 : decode cX4_mutual 35 = .ok (.getfield 41, 3) := by decide +kernel
theorem dX4_mutual_38 : decode cX4_mutual 38 = .ok (.iload 4, 2) := by decide +kernel
theorem dX4_mutual_40 : decode cX4_mutual 40 = .ok (.bipush 8, 2) := by decide +kernel
theorem dX4_mutual_42 : decode cX4_mutual 42 = .ok (.imul, 1) := by decide +kernel
theorem dX4_mutual_43 : decode cX4_mutual 43 = .ok (.iload_n 3, 1) := by decide +kernel
theorem dX4_mutual_44 : decode cX4_mutual 44 = .ok (.iadd, 1) := by decide +kernel
theorem dX4_mutual_45 : decode cX4_mutual 45 = .ok (.iaload, 1) := by decide +kernel
theorem dX4_mutual_46 : decode cX4_mutual 46 = .ok (.invokestatic 50, 3) := by decide +kernel
theorem dX4_mutual_49 : decode cX4_mutual 49 = .ok (.iadd, 1) := by decide +kernel
theorem dX4_mutual_50 : decode cX4_mutual 50 = .ok (.istore_n 2, 1) := by decide +kernel
theorem dX4_mutual_51 : decode cX4_mutual 51 = .ok (.iinc 4 1, 3) := by decide +kernel
theorem dX4_mutual_54 : decode cX4_mutual 54 = .ok (.goto (-39), 3) := by decide +kernel
theorem dX4_mutual_57 : decode cX4_mutual 57 = .ok (.iinc 3 1, 3) := by decide +kernel
theorem dX4_mutual_60 : decode cX4_mutual 60 = .ok (.goto (-56), 3) := by decide +kernel
theorem dX4_mutual_63 : decode cX4_mutual 63 = .ok (.iload_n 2, 1) := by decide +kernel
theorem dX4_mutual_64 : decode cX4_mutual 64 = .ok (.ireturn, 1) := by decide +kernel
theorem dX4_owedBy_0 : decode cX4_owedBy 0 = .ok (.iconst 0, 1) := by decide +kernel
theorem dX4_owedBy_1 : decode cX4_owedBy 1 = .ok (.istore_n 2, 1) := by decide +kernel
theorem dX4_owedBy_2 : decode cX4_owedBy 2 = .ok (.iconst 0, 1) := by decide +kernel
theorem dX4_owedBy_3 : decode cX4_owedBy 3 = .ok (.istore_n 3, 1) := by decide +kernel
theorem dX4_owedBy_4 : decode cX4_owedBy 4 = .ok (.iload_n 3, 1) := by decide +kernel
theorem dX4_owedBy_5 : decode cX4_owedBy 5 = .ok (.aload_n 0, 1) := by decide +kernel
theorem dX4_owedBy_6 : decode cX4_owedBy 6 = .ok (.getfield 31, 3) := by decide +kernel
theorem dX4_owedBy_9 : decode cX4_owedBy 9 = .ok (.if_icmp .ge 33, 3) := by decide +kernel
theorem dX4_owedBy_12 : decode cX4_owedBy 12 = .ok (.iload_n 2, 1) := by decide +kernel
theorem dX4_owedBy_13 : decode cX4_owedBy 13 = .ok (.aload_n 0, 1) := by decide +kernel
theorem dX4_owedBy_14 : decode cX4_owedBy 14 = .ok (.getfield 41, 3) := by decide +kernel
theorem dX4_owedBy_17 : decode cX4_owedBy 17 = .ok (.iload_n 1, 1) := by decide +kernel
theorem dX4_owedBy_18 : decode cX4_owedBy 18 = .ok (.bipush 8, 2) := by decide +kernel
theorem dX4_owedBy_20 : decode cX4_owedBy 20 = .ok (.imul, 1) := by decide +kernel
theorem dX4_owedBy_21 : decode cX4_owedBy 21 = .ok (.iload_n 3, 1) := by decide +kernel
theorem dX4_owedBy_22 : decode cX4_owedBy 22 = .ok (.iadd, 1) := by decide +kernel
theorem dX4_owedBy_23 : decode cX4_owedBy 23 = .ok (.iaload, 1) := by decide +kernel
theorem dX4_owedBy_24 : decode cX4_owedBy 24 = .ok (.ifCond .le 9, 3) := by decide +kernel
theorem dX4_owedBy_27 : decode cX4_owedBy 27 = .ok (.iconst 1, 1) := by decide +kernel
theorem dX4_owedBy_28 : decode cX4_owedBy 28 = .ok (.iload_n 3, 1) := by decide +kernel
theorem dX4_owedBy_29 : decode cX4_owedBy 29 = .ok (.ishl, 1) := by decide +kernel
theorem dX4_owedBy_30 : decode cX4_owedBy 30 = .ok (.goto 4, 3) := by decide +kernel
theorem dX4_owedBy_33 : decode cX4_owedBy 33 = .ok (.iconst 0, 1) := by decide +kernel
theorem dX4_owedBy_34 : decode cX4_owedBy 34 = .ok (.ior, 1) := by decide +kernel
theorem dX4_owedBy_35 : decode cX4_owedBy 35 = .ok (.istore_n 2, 1) := by decide +kernel
theorem dX4_owedBy_36 : decode cX4_owedBy 36 = .ok (.iinc 3 1, 3) := by decide +kernel
theorem dX4_owedBy_39 : decode cX4_owedBy 39 = .ok (.goto (-35), 3) := by decide +kernel
theorem dX4_owedBy_42 : decode cX4_owedBy 42 = .ok (.iload_n 2, 1) := by decide +kernel
theorem dX4_owedBy_43 : decode cX4_owedBy 43 = .ok (.ireturn, 1) := by decide +kernel
theorem dX4_findNets_0 : decode cX4_findNets 0 = .ok (.iconst 0, 1) := by decide +kernel
theorem dX4_findNets_1 : decode cX4_findNets 1 = .ok (.istore_n 2, 1) := by decide +kernel
theorem dX4_findNets_2 : decode cX4_findNets 2 = .ok (.iload_n 2, 1) := by decide +kernel
theorem dX4_findNets_3 : decode cX4_findNets 3 = .ok (.aload_n 1, 1) := by decide +kernel
theorem dX4_findNets_4 : decode cX4_findNets 4 = .ok (.getfield 31, 3) := by decide +kernel
theorem dX4_findNets_7 : decode cX4_findNets 7 = .ok (.if_icmp .ge 20, 3) := by decide +kernel
theorem dX4_findNets_10 : decode cX4_findNets 10 = .ok (.aload_n 0, 1) := by decide +kernel
theorem dX4_findNets_11 : decode cX4_findNets 11 = .ok (.getfield 9, 3) := by decide +kernel
theorem dX4_findNets_14 : decode cX4_findNets 14 = .ok (.iload_n 2, 1) := by decide +kernel
theorem dX4_findNets_15 : decode cX4_findNets 15 = .ok (.aload_n 1, 1) := by decide +kernel
theorem dX4_findNets_16 : decode cX4_findNets 16 = .ok (.iload_n 2, 1) := by decide +kernel
theorem dX4_findNets_17 : decode cX4_findNets 17 = .ok (.invokevirtual 57, 3) := by decide +kernel
theorem dX4_findNets_20 : decode cX4_findNets 20 = .ok (.iastore, 1) := by decide +kernel
theorem dX4_findNets_21 : decode cX4_findNets 21 = .ok (.iinc 2 1, 3) := by decide +kernel
theorem dX4_findNets_24 : decode cX4_findNets 24 = .ok (.goto (-22), 3) := by decide +kernel
theorem dX4_findNets_27 : decode cX4_findNets 27 = .ok (.return_, 1) := by decide +kernel
theorem dX5_init_0 : decode cX5_init 0 = .ok (.aload_n 0, 1) := by decide +kernel
theorem dX5_init_1 : decode cX5_init 1 = .ok (.invokespecial 3, 3) := by decide +kernel
theorem dX5_init_4 : decode cX5_init 4 = .ok (.aload_n 0, 1) := by decide +kernel
theorem dX5_init_5 : decode cX5_init 5 = .ok (.iload_n 1, 1) := by decide +kernel
theorem dX5_init_6 : decode cX5_init 6 = .ok (.putfield 9, 3) := by decide +kernel
theorem dX5_init_9 : decode cX5_init 9 = .ok (.aload_n 0, 1) := by decide +kernel
theorem dX5_init_10 : decode cX5_init 10 = .ok (.iload_n 2, 1) := by decide +kernel
theorem dX5_init_11 : decode cX5_init 11 = .ok (.putfield 15, 3) := by decide +kernel
theorem dX5_init_14 : decode cX5_init 14 = .ok (.aload_n 0, 1) := by decide +kernel
theorem dX5_init_15 : decode cX5_init 15 = .ok (.aload_n 3, 1) := by decide +kernel
theorem dX5_init_16 : decode cX5_init 16 = .ok (.invokevirtual 18, 3) := by decide +kernel
theorem dX5_init_19 : decode cX5_init 19 = .ok (.checkcast 19, 3) := by decide +kernel
theorem dX5_init_22 : decode cX5_init 22 = .ok (.putfield 24, 3) := by decide +kernel
theorem dX5_init_25 : decode cX5_init 25 = .ok (.aload_n 0, 1) := by decide +kernel
theorem dX5_init_26 : decode cX5_init 26 = .ok (.aload 4, 2) := by decide +kernel
theorem dX5_init_28 : decode cX5_init 28 = .ok (.invokevirtual 18, 3) := by decide +kernel
theorem dX5_init_31 : decode cX5_init 31 = .ok (.checkcast 19, 3) := by decide +kernel
theorem dX5_init_34 : decode cX5_init 34 = .ok (.putfield 27, 3) := by decide +kernel
theorem dX5_init_37 : decode cX5_init 37 = .ok (.aload_n 0, 1) := by decide +kernel
theorem dX5_init_38 : decode cX5_init 38 = .ok (.aload 5, 2) := by decide +kernel
theorem dX5_init_40 : decode cX5_init 40 = .ok (.putfield 30, 3) := by decide +kernel
theorem dX5_init_43 : decode cX5_init 43 = .ok (.return_, 1) := by decide +kernel
theorem dX5_sumOf_0 : decode cX5_sumOf 0 = .ok (.iconst 0, 1) := by decide +kernel
theorem dX5_sumOf_1 : decode cX5_sumOf 1 = .ok (.istore_n 3, 1) := by decide +kernel
theorem dX5_sumOf_2 : decode cX5_sumOf 2 = .ok (.iconst 0, 1) := by decide +kernel
theorem dX5_sumOf_3 : decode cX5_sumOf 3 = .ok (.istore 4, 2) := by decide +kernel
theorem dX5_sumOf_5 : decode cX5_sumOf 5 = .ok (.iload 4, 2) := by decide +kernel
theorem dX5_sumOf_7 : decode cX5_sumOf 7 = .ok (.aload_n 0, 1) := by decide +kernel
theorem dX5_sumOf_8 : decode cX5_sumOf 8 = .ok (.getfield 9, 3) := by decide +kernel
theorem dX5_sumOf_11 : decode cX5_sumOf 11 = .ok (.if_icmp .ge 42, 3) := by decide +kernel
theorem dX5_sumOf_14 : decode cX5_sumOf 14 = .ok (.aload_n 0, 1) := by decide +kernel
theorem dX5_sumOf_15 : decode cX5_sumOf 15 = .ok (.getfield 15, 3) := by decide +kernel
theorem dX5_sumOf_18 : decode cX5_sumOf 18 = .ok (.iload 4, 2) := by decide +kernel
theorem dX5_sumOf_20 : decode cX5_sumOf 20 = .ok (.ishr, 1) := by decide +kernel
theorem dX5_sumOf_21 : decode cX5_sumOf 21 = .ok (.iconst 1, 1) := by decide +kernel
theorem dX5_sumOf_22 : decode cX5_sumOf 22 = .ok (.iand, 1) := by decide +kernel
theorem dX5_sumOf_23 : decode cX5_sumOf 23 = .ok (.iload_n 1, 1) := by decide +kernel
theorem dX5_sumOf_24 : decode cX5_sumOf 24 = .ok (.if_icmp .ne 23, 3) := by decide +kernel
theorem dX5_sumOf_27 : decode cX5_sumOf 27 = .ok (.aload_n 0, 1) := by decide +kernel
theorem dX5_sumOf_28 : decode cX5_sumOf 28 = .ok (.iload 4, 2) := by decide +kernel
theorem dX5_sumOf_30 : decode cX5_sumOf 30 = .ok (.aload_n 2, 1) := by decide +kernel
theorem dX5_sumOf_31 : decode cX5_sumOf 31 = .ok (.invokevirtual 33, 3) := by decide +kernel
theorem dX5_sumOf_34 : decode cX5_sumOf 34 = .ok (.ifCond .eq 13, 3) := by decide +kernel
theorem dX5_sumOf_37 : decode cX5_sumOf 37 = .ok (.iload_n 3, 1) := by decide +kernel
theorem dX5_sumOf_38 : decode cX5_sumOf 38 = .ok (.aload_n 0, 1) := by decide +kernel
theorem dX5_sumOf_39 : decode cX5_sumOf 39 = .ok (.getfield 24, 3) := by decide +kernel
theorem dX5_sumOf_42 : decode cX5_sumOf 42 = .ok (.iload 4, 2) := by decide +kernel
theorem dX5_sumOf_44 : decode cX5_sumOf 44 = .ok (.iaload, 1) := by decide +kernel
theorem dX5_sumOf_45 : decode cX5_sumOf 45 = .ok (.iadd, 1) := by decide +kernel
theorem dX5_sumOf_46 : decode cX5_sumOf 46 = .ok (.istore_n 3, 1) := by decide +kernel
theorem dX5_sumOf_47 : decode cX5_sumOf 47 = .ok (.iinc 4 1, 3) := by decide +kernel
theorem dX5_sumOf_50 : decode cX5_sumOf 50 = .ok (.goto (-45), 3) := by decide +kernel
theorem dX5_sumOf_53 : decode cX5_sumOf 53 = .ok (.iload_n 3, 1) := by decide +kernel
theorem dX5_sumOf_54 : decode cX5_sumOf 54 = .ok (.ireturn, 1) := by decide +kernel
theorem dX5_holds_0 : decode cX5_holds 0 = .ok (.aload_n 2, 1) := by decide +kernel
theorem dX5_holds_1 : decode cX5_holds 1 = .ok (.getfield 37, 3) := by decide +kernel
theorem dX5_holds_4 : decode cX5_holds 4 = .ok (.astore_n 3, 1) := by decide +kernel
theorem dX5_holds_5 : decode cX5_holds 5 = .ok (.iconst 0, 1) := by decide +kernel
theorem dX5_holds_6 : decode cX5_holds 6 = .ok (.istore 4, 2) := by decide +kernel
theorem dX5_holds_8 : decode cX5_holds 8 = .ok (.aload_n 0, 1) := by decide +kernel
theorem dX5_holds_9 : decode cX5_holds 9 = .ok (.getfield 27, 3) := by decide +kernel
theorem dX5_holds_12 : decode cX5_holds 12 = .ok (.iload_n 1, 1) := by decide +kernel
theorem dX5_holds_13 : decode cX5_holds 13 = .ok (.iaload, 1) := by decide +kernel
theorem dX5_holds_14 : decode cX5_holds 14 = .ok (.istore 5, 2) := by decide +kernel
theorem dX5_holds_16 : decode cX5_holds 16 = .ok (.iload 5, 2) := by decide +kernel
theorem dX5_holds_18 : decode cX5_holds 18 = .ok (.aload_n 0, 1) := by decide +kernel
theorem dX5_holds_19 : decode cX5_holds 19 = .ok (.getfield 27, 3) := by decide +kernel
theorem dX5_holds_22 : decode cX5_holds 22 = .ok (.iload_n 1, 1) := by decide +kernel
theorem dX5_holds_23 : decode cX5_holds 23 = .ok (.iconst 1, 1) := by decide +kernel
theorem dX5_holds_24 : decode cX5_holds 24 = .ok (.iadd, 1) := by decide +kernel
theorem dX5_holds_25 : decode cX5_holds 25 = .ok (.iaload, 1) := by decide +kernel
theorem dX5_holds_26 : decode cX5_holds 26 = .ok (.if_icmp .ge 116, 3) := by decide +kernel
theorem dX5_holds_29 : decode cX5_holds 29 = .ok (.aload_n 0, 1) := by decide +kernel
theorem dX5_holds_30 : decode cX5_holds 30 = .ok (.getfield 30, 3) := by decide +kernel
theorem dX5_holds_33 : decode cX5_holds 33 = .ok (.iload 5, 2) := by decide +kernel
theorem dX5_holds_35 : decode cX5_holds 35 = .ok (.iaload, 1) := by decide +kernel
theorem dX5_holds_36 : decode cX5_holds 36 = .ok (.istore 6, 2) := by decide +kernel
theorem dX5_holds_38 : decode cX5_holds 38 = .ok (.iload 6, 2) := by decide +kernel
theorem dX5_holds_40 : decode cX5_holds 40 = .ok (.sipush 1007, 3) := by decide +kernel
theorem dX5_holds_43 : decode cX5_holds 43 = .ok (.if_icmp .ge 28, 3) := by decide +kernel
theorem dX5_holds_46 : decode cX5_holds 46 = .ok (.iload 4, 2) := by decide +kernel
theorem dX5_holds_48 : decode cX5_holds 48 = .ok (.aload_n 3, 1) := by decide +kernel
theorem dX5_holds_49 : decode cX5_holds 49 = .ok (.arraylength, 1) := by decide +kernel
theorem dX5_holds_50 : decode cX5_holds 50 = .ok (.if_icmp .lt 5, 3) := by decide +kernel
theorem dX5_holds_53 : decode cX5_holds 53 = .ok (.iconst 0, 1) := by decide +kernel
theorem dX5_holds_54 : decode cX5_holds 54 = .ok (.ireturn, 1) := by decide +kernel
theorem dX5_holds_55 : decode cX5_holds 55 = .ok (.aload_n 3, 1) := by decide +kernel
theorem dX5_holds_56 : decode cX5_holds 56 = .ok (.iload 4, 2) := by decide +kernel
theorem dX5_holds_58 : decode cX5_holds 58 = .ok (.aload_n 2, 1) := by decide +kernel
theorem dX5_holds_59 : decode cX5_holds 59 = .ok (.iload 6, 2) := by decide +kernel
theorem dX5_holds_61 : decode cX5_holds 61 = .ok (.invokevirtual 42, 3) := by decide +kernel
theorem dX5_holds_64 : decode cX5_holds 64 = .ok (.iastore, 1) := by decide +kernel
theorem dX5_holds_65 : decode cX5_holds 65 = .ok (.iinc 4 1, 3) := by decide +kernel
theorem dX5_holds_68 : decode cX5_holds 68 = .ok (.goto 68, 3) := by decide +kernel
theorem dX5_holds_71 : decode cX5_holds 71 = .ok (.iload 6, 2) := by decide +kernel
theorem dX5_holds_73 : decode cX5_holds 73 = .ok (.sipush 1012, 3) := by decide +kernel
theorem dX5_holds_76 : decode cX5_holds 76 = .ok (.if_icmp .ne 28, 3) := by decide +kernel
theorem dX5_holds_79 : decode cX5_holds 79 = .ok (.iload 4, 2) := by decide +kernel
theorem dX5_holds_81 : decode cX5_holds 81 = .ok (.iconst 1, 1) := by decide +kernel
theorem dX5_holds_82 : decode cX5_holds 82 = .ok (.if_icmp .ge 5, 3) := by decide +kernel
theorem dX5_holds_85 : decode cX5_holds 85 = .ok (.iconst 0, 1) := by decide +kernel
theorem dX5_holds_86 : decode cX5_holds 86 = .ok (.ireturn, 1) := by decide +kernel
theorem dX5_holds_87 : decode cX5_holds 87 = .ok (.aload_n 3, 1) := by decide +kernel
theorem dX5_holds_88 : decode cX5_holds 88 = .ok (.iload 4, 2) := by decide +kernel
theorem dX5_holds_90 : decode cX5_holds 90 = .ok (.iconst 1, 1) := by decide +kernel
theorem dX5_holds_91 : decode cX5_holds 91 = .ok (.isub, 1) := by decide +kernel
theorem dX5_holds_92 : decode cX5_holds 92 = .ok (.iconst 1, 1) := by decide +kernel
theorem dX5_holds_93 : decode cX5_holds 93 = .ok (.aload_n 3, 1) := by decide +kernel
theorem dX5_holds_94 : decode cX5_holds 94 = .ok (.iload 4, 2) := by decide +kernel
theorem dX5_holds_96 : decode cX5_holds 96 = .ok (.iconst 1, 1) := by decide +kernel
theorem dX5_holds_97 : decode cX5_holds 97 = .ok (.isub, 1) := by decide +kernel
theorem dX5_holds_98 : decode cX5_holds 98 = .ok (.iaload, 1) := by decide +kernel
theorem dX5_holds_99 : decode cX5_holds 99 = .ok (.isub, 1) := by decide +kernel
theorem dX5_holds_100 : decode cX5_holds 100 = .ok (.iastore, 1) := by decide +kernel
theorem dX5_holds_101 : decode cX5_holds 101 = .ok (.goto 35, 3) := by decide +kernel
theorem dX5_holds_104 : decode cX5_holds 104 = .ok (.iload 4, 2) := by decide +kernel
theorem dX5_holds_106 : decode cX5_holds 106 = .ok (.iconst 2, 1) := by decide +kernel
theorem dX5_holds_107 : decode cX5_holds 107 = .ok (.if_icmp .ge 5, 3) := by decide +kernel
theorem dX5_holds_110 : decode cX5_holds 110 = .ok (.iconst 0, 1) := by decide +kernel
theorem dX5_holds_111 : decode cX5_holds 111 = .ok (.ireturn, 1) := by decide +kernel
theorem dX5_holds_112 : decode cX5_holds 112 = .ok (.iinc 4 (-1), 3) := by decide +kernel
theorem dX5_holds_115 : decode cX5_holds 115 = .ok (.aload_n 3, 1) := by decide +kernel
theorem dX5_holds_116 : decode cX5_holds 116 = .ok (.iload 4, 2) := by decide +kernel
theorem dX5_holds_118 : decode cX5_holds 118 = .ok (.iconst 1, 1) := by decide +kernel
theorem dX5_holds_119 : decode cX5_holds 119 = .ok (.isub, 1) := by decide +kernel
theorem dX5_holds_120 : decode cX5_holds 120 = .ok (.iload 6, 2) := by decide +kernel
theorem dX5_holds_122 : decode cX5_holds 122 = .ok (.aload_n 3, 1) := by decide +kernel
theorem dX5_holds_123 : decode cX5_holds 123 = .ok (.iload 4, 2) := by decide +kernel
theorem dX5_holds_125 : decode cX5_holds 125 = .ok (.iconst 1, 1) := by decide +kernel
theorem dX5_holds_126 : decode cX5_holds 126 = .ok (.isub, 1) := by decide +kernel
theorem dX5_holds_127 : decode cX5_holds 127 = .ok (.iaload, 1) := by decide +kernel
theorem dX5_holds_128 : decode cX5_holds 128 = .ok (.aload_n 3, 1) := by decide +kernel
theorem dX5_holds_129 : decode cX5_holds 129 = .ok (.iload 4, 2) := by decide +kernel
theorem dX5_holds_131 : decode cX5_holds 131 = .ok (.iaload, 1) := by decide +kernel
theorem dX5_holds_132 : decode cX5_holds 132 = .ok (.invokestatic 46, 3) := by decide +kernel
theorem dX5_holds_135 : decode cX5_holds 135 = .ok (.iastore, 1) := by decide +kernel
theorem dX5_holds_136 : decode cX5_holds 136 = .ok (.iinc 5 1, 3) := by decide +kernel
theorem dX5_holds_139 : decode cX5_holds 139 = .ok (.goto (-123), 3) := by decide +kernel
theorem dX5_holds_142 : decode cX5_holds 142 = .ok (.iload 4, 2) := by decide +kernel
theorem dX5_holds_144 : decode cX5_holds 144 = .ok (.ifCond .eq 10, 3) := by decide +kernel
theorem dX5_holds_147 : decode cX5_holds 147 = .ok (.aload_n 3, 1) := by decide +kernel
theorem dX5_holds_148 : decode cX5_holds 148 = .ok (.iconst 0, 1) := by decide +kernel
theorem dX5_holds_149 : decode cX5_holds 149 = .ok (.iaload, 1) := by decide +kernel
theorem dX5_holds_150 : decode cX5_holds 150 = .ok (.iconst 1, 1) := by decide +kernel
theorem dX5_holds_151 : decode cX5_holds 151 = .ok (.if_icmp .ne 7, 3) := by decide +kernel
theorem dX5_holds_154 : decode cX5_holds 154 = .ok (.iconst 1, 1) := by decide +kernel
theorem dX5_holds_155 : decode cX5_holds 155 = .ok (.goto 4, 3) := by decide +kernel
theorem dX5_holds_158 : decode cX5_holds 158 = .ok (.iconst 0, 1) := by decide +kernel
theorem dX5_holds_159 : decode cX5_holds 159 = .ok (.ireturn, 1) := by decide +kernel
theorem dX5_joined_0 : decode cX5_joined 0 = .ok (.iload_n 0, 1) := by decide +kernel
theorem dX5_joined_1 : decode cX5_joined 1 = .ok (.tableswitch 61 1007 1010 #[31, 35, 46, 57], 31) := by decide +kernel
theorem dX5_joined_32 : decode cX5_joined 32 = .ok (.iload_n 1, 1) := by decide +kernel
theorem dX5_joined_33 : decode cX5_joined 33 = .ok (.iload_n 2, 1) := by decide +kernel
theorem dX5_joined_34 : decode cX5_joined 34 = .ok (.iadd, 1) := by decide +kernel
theorem dX5_joined_35 : decode cX5_joined 35 = .ok (.ireturn, 1) := by decide +kernel
theorem dX5_joined_36 : decode cX5_joined 36 = .ok (.iload_n 1, 1) := by decide +kernel
theorem dX5_joined_37 : decode cX5_joined 37 = .ok (.iload_n 2, 1) := by decide +kernel
theorem dX5_joined_38 : decode cX5_joined 38 = .ok (.if_icmp .ge 7, 3) := by decide +kernel
theorem dX5_joined_41 : decode cX5_joined 41 = .ok (.iconst 1, 1) := by decide +kernel
theorem dX5_joined_42 : decode cX5_joined 42 = .ok (.goto 4, 3) := by decide +kernel
theorem dX5_joined_45 : decode cX5_joined 45 = .ok (.iconst 0, 1) := by decide +kernel
theorem dX5_joined_46 : decode cX5_joined 46 = .ok (.ireturn, 1) := by decide +kernel
theorem dX5_joined_47 : decode cX5_joined 47 = .ok (.iload_n 1, 1) := by decide +kernel
theorem dX5_joined_48 : decode cX5_joined 48 = .ok (.iload_n 2, 1) := by decide +kernel
theorem dX5_joined_49 : decode cX5_joined 49 = .ok (.if_icmp .le 7, 3) := by decide +kernel
theorem dX5_joined_52 : decode cX5_joined 52 = .ok (.iconst 1, 1) := by decide +kernel
theorem dX5_joined_53 : decode cX5_joined 53 = .ok (.goto 4, 3) := by decide +kernel
theorem dX5_joined_56 : decode cX5_joined 56 = .ok (.iconst 0, 1) := by decide +kernel
theorem dX5_joined_57 : decode cX5_joined 57 = .ok (.ireturn, 1) := by decide +kernel
theorem dX5_joined_58 : decode cX5_joined 58 = .ok (.iload_n 1, 1) := by decide +kernel
theorem dX5_joined_59 : decode cX5_joined 59 = .ok (.iload_n 2, 1) := by decide +kernel
theorem dX5_joined_60 : decode cX5_joined 60 = .ok (.iand, 1) := by decide +kernel
theorem dX5_joined_61 : decode cX5_joined 61 = .ok (.ireturn, 1) := by decide +kernel
theorem dX5_joined_62 : decode cX5_joined 62 = .ok (.iload_n 1, 1) := by decide +kernel
theorem dX5_joined_63 : decode cX5_joined 63 = .ok (.iload_n 2, 1) := by decide +kernel
theorem dX5_joined_64 : decode cX5_joined 64 = .ok (.ior, 1) := by decide +kernel
theorem dX5_joined_65 : decode cX5_joined 65 = .ok (.ireturn, 1) := by decide +kernel
theorem dX6_init_0 : decode cX6_init 0 = .ok (.aload_n 0, 1) := by decide +kernel
theorem dX6_init_1 : decode cX6_init 1 = .ok (.invokespecial 3, 3) := by decide +kernel
theorem dX6_init_4 : decode cX6_init 4 = .ok (.aload_n 0, 1) := by decide +kernel
theorem dX6_init_5 : decode cX6_init 5 = .ok (.sipush 400, 3) := by decide +kernel
theorem dX6_init_8 : decode cX6_init 8 = .ok (.newarray .int, 2) := by decide +kernel
theorem dX6_init_10 : decode cX6_init 10 = .ok (.putfield 9, 3) := by decide +kernel
theorem dX6_init_13 : decode cX6_init 13 = .ok (.aload_n 0, 1) := by decide +kernel
theorem dX6_init_14 : decode cX6_init 14 = .ok (.bipush 12, 2) := by decide +kernel
theorem dX6_init_16 : decode cX6_init 16 = .ok (.newarray .int, 2) := by decide +kernel
theorem dX6_init_18 : decode cX6_init 18 = .ok (.putfield 15, 3) := by decide +kernel
theorem dX6_init_21 : decode cX6_init 21 = .ok (.aload_n 0, 1) := by decide +kernel
theorem dX6_init_22 : decode cX6_init 22 = .ok (.bipush 13, 2) := by decide +kernel
theorem dX6_init_24 : decode cX6_init 24 = .ok (.newarray .int, 2) := by decide +kernel
theorem dX6_init_26 : decode cX6_init 26 = .ok (.putfield 18, 3) := by decide +kernel
theorem dX6_init_29 : decode cX6_init 29 = .ok (.return_, 1) := by decide +kernel
theorem dX6_read_0 : decode cX6_read 0 = .ok (.aload_n 0, 1) := by decide +kernel
theorem dX6_read_1 : decode cX6_read 1 = .ok (.iconst 0, 1) := by decide +kernel
theorem dX6_read_2 : decode cX6_read 2 = .ok (.putfield 21, 3) := by decide +kernel
theorem dX6_read_5 : decode cX6_read 5 = .ok (.aload_n 0, 1) := by decide +kernel
theorem dX6_read_6 : decode cX6_read 6 = .ok (.iconst 0, 1) := by decide +kernel
theorem dX6_read_7 : decode cX6_read 7 = .ok (.putfield 25, 3) := by decide +kernel
theorem dX6_read_10 : decode cX6_read 10 = .ok (.aload_n 0, 1) := by decide +kernel
theorem dX6_read_11 : decode cX6_read 11 = .ok (.iconst 0, 1) := by decide +kernel
theorem dX6_read_12 : decode cX6_read 12 = .ok (.putfield 28, 3) := by decide +kernel
theorem dX6_read_15 : decode cX6_read 15 = .ok (.aload_n 1, 1) := by decide +kernel
theorem dX6_read_16 : decode cX6_read 16 = .ok (.invokevirtual 31, 3) := by decide +kernel
theorem dX6_read_19 : decode cX6_read 19 = .ok (.ifCond .ne 7, 3) := by decide +kernel
theorem dX6_read_22 : decode cX6_read 22 = .ok (.iconst 1, 1) := by decide +kernel
theorem dX6_read_23 : decode cX6_read 23 = .ok (.goto 4, 3) := by decide +kernel
theorem dX6_read_26 : decode cX6_read 26 = .ok (.iconst 0, 1) := by decide +kernel
theorem dX6_read_27 : decode cX6_read 27 = .ok (.istore_n 2, 1) := by decide +kernel
theorem dX6_read_28 : decode cX6_read 28 = .ok (.iload_n 2, 1) := by decide +kernel
theorem dX6_read_29 : decode cX6_read 29 = .ok (.ifCond .eq 59, 3) := by decide +kernel
theorem dX6_read_32 : decode cX6_read 32 = .ok (.aload_n 0, 1) := by decide +kernel
theorem dX6_read_33 : decode cX6_read 33 = .ok (.getfield 25, 3) := by decide +kernel
theorem dX6_read_36 : decode cX6_read 36 = .ok (.bipush 12, 2) := by decide +kernel
theorem dX6_read_38 : decode cX6_read 38 = .ok (.if_icmp .ge 50, 3) := by decide +kernel
theorem dX6_read_41 : decode cX6_read 41 = .ok (.aload_n 0, 1) := by decide +kernel
theorem dX6_read_42 : decode cX6_read 42 = .ok (.aload_n 1, 1) := by decide +kernel
theorem dX6_read_43 : decode cX6_read 43 = .ok (.aload_n 0, 1) := by decide +kernel
theorem dX6_read_44 : decode cX6_read 44 = .ok (.getfield 25, 3) := by decide +kernel
theorem dX6_read_47 : decode cX6_read 47 = .ok (.invokevirtual 37, 3) := by decide +kernel
theorem dX6_read_50 : decode cX6_read 50 = .ok (.ifCond .ne 5, 3) := by decide +kernel
theorem dX6_read_53 : decode cX6_read 53 = .ok (.aconst_null, 1) := by decide +kernel
theorem dX6_read_54 : decode cX6_read 54 = .ok (.areturn, 1) := by decide +kernel
theorem dX6_read_55 : decode cX6_read 55 = .ok (.aload_n 0, 1) := by decide +kernel
theorem dX6_read_56 : decode cX6_read 56 = .ok (.dup, 1) := by decide +kernel
theorem dX6_read_57 : decode cX6_read 57 = .ok (.getfield 25, 3) := by decide +kernel
theorem dX6_read_60 : decode cX6_read 60 = .ok (.iconst 1, 1) := by decide +kernel
theorem dX6_read_61 : decode cX6_read 61 = .ok (.iadd, 1) := by decide +kernel
theorem dX6_read_62 : decode cX6_read 62 = .ok (.putfield 25, 3) := by decide +kernel
theorem dX6_read_65 : decode cX6_read 65 = .ok (.aload_n 0, 1) := by decide +kernel
theorem dX6_read_66 : decode cX6_read 66 = .ok (.getfield 18, 3) := by decide +kernel
theorem dX6_read_69 : decode cX6_read 69 = .ok (.aload_n 0, 1) := by decide +kernel
theorem dX6_read_70 : decode cX6_read 70 = .ok (.getfield 25, 3) := by decide +kernel
theorem dX6_read_73 : decode cX6_read 73 = .ok (.aload_n 0, 1) := by decide +kernel
theorem dX6_read_74 : decode cX6_read 74 = .ok (.getfield 21, 3) := by decide +kernel
theorem dX6_read_77 : decode cX6_read 77 = .ok (.iastore, 1) := by decide +kernel
theorem dX6_read_78 : decode cX6_read 78 = .ok (.aload_n 1, 1) := by decide +kernel
theorem dX6_read_79 : decode cX6_read 79 = .ok (.bipush 59, 2) := by decide +kernel
theorem dX6_read_81 : decode cX6_read 81 = .ok (.invokevirtual 41, 3) := by decide +kernel
theorem dX6_read_84 : decode cX6_read 84 = .ok (.istore_n 2, 1) := by decide +kernel
theorem dX6_read_85 : decode cX6_read 85 = .ok (.goto (-57), 3) := by decide +kernel
theorem dX6_read_88 : decode cX6_read 88 = .ok (.iload_n 2, 1) := by decide +kernel
theorem dX6_read_89 : decode cX6_read 89 = .ok (.ifCond .ne 10, 3) := by decide +kernel
theorem dX6_read_92 : decode cX6_read 92 = .ok (.aload_n 1, 1) := by decide +kernel
theorem dX6_read_93 : decode cX6_read 93 = .ok (.invokevirtual 31, 3) := by decide +kernel
theorem dX6_read_96 : decode cX6_read 96 = .ok (.ifCond .ne 5, 3) := by decide +kernel
theorem dX6_read_99 : decode cX6_read 99 = .ok (.aconst_null, 1) := by decide +kernel
theorem dX6_read_100 : decode cX6_read 100 = .ok (.areturn, 1) := by decide +kernel
theorem dX6_read_101 : decode cX6_read 101 = .ok (.new 45, 3) := by decide +kernel
theorem dX6_read_104 : decode cX6_read 104 = .ok (.dup, 1) := by decide +kernel
theorem dX6_read_105 : decode cX6_read 105 = .ok (.aload_n 0, 1) := by decide +kernel
theorem dX6_read_106 : decode cX6_read 106 = .ok (.getfield 25, 3) := by decide +kernel
theorem dX6_read_109 : decode cX6_read 109 = .ok (.aload_n 0, 1) := by decide +kernel
theorem dX6_read_110 : decode cX6_read 110 = .ok (.getfield 28, 3) := by decide +kernel
theorem dX6_read_113 : decode cX6_read 113 = .ok (.aload_n 0, 1) := by decide +kernel
theorem dX6_read_114 : decode cX6_read 114 = .ok (.getfield 15, 3) := by decide +kernel
theorem dX6_read_117 : decode cX6_read 117 = .ok (.aload_n 0, 1) := by decide +kernel
theorem dX6_read_118 : decode cX6_read 118 = .ok (.getfield 18, 3) := by decide +kernel
theorem dX6_read_121 : decode cX6_read 121 = .ok (.aload_n 0, 1) := by decide +kernel
theorem dX6_read_122 : decode cX6_read 122 = .ok (.getfield 9, 3) := by decide +kernel
theorem dX6_read_125 : decode cX6_read 125 = .ok (.aload_n 0, 1) := by decide +kernel
theorem dX6_read_126 : decode cX6_read 126 = .ok (.getfield 21, 3) := by decide +kernel
theorem dX6_read_129 : decode cX6_read 129 = .ok (.invokestatic 47, 3) := by decide +kernel
theorem dX6_read_132 : decode cX6_read 132 = .ok (.invokespecial 53, 3) := by decide +kernel
theorem dX6_read_135 : decode cX6_read 135 = .ok (.areturn, 1) := by decide +kernel
theorem dX6_readLine_0 : decode cX6_readLine 0 = .ok (.aload_n 1, 1) := by decide +kernel
theorem dX6_readLine_1 : decode cX6_readLine 1 = .ok (.ldc 56, 2) := by decide +kernel
theorem dX6_readLine_3 : decode cX6_readLine 3 = .ok (.invokevirtual 58, 3) := by decide +kernel
theorem dX6_readLine_6 : decode cX6_readLine 6 = .ok (.istore_n 3, 1) := by decide +kernel
theorem dX6_readLine_7 : decode cX6_readLine 7 = .ok (.iload_n 3, 1) := by decide +kernel
theorem dX6_readLine_8 : decode cX6_readLine 8 = .ok (.ifCond .ne 14, 3) := by decide +kernel
theorem dX6_readLine_11 : decode cX6_readLine 11 = .ok (.aload_n 1, 1) := by decide +kernel
theorem dX6_readLine_12 : decode cX6_readLine 12 = .ok (.ldc 62, 2) := by decide +kernel
theorem dX6_readLine_14 : decode cX6_readLine 14 = .ok (.invokevirtual 58, 3) := by decide +kernel
theorem dX6_readLine_17 : decode cX6_readLine 17 = .ok (.ifCond .ne 5, 3) := by decide +kernel
theorem dX6_readLine_20 : decode cX6_readLine 20 = .ok (.iconst 0, 1) := by decide +kernel
theorem dX6_readLine_21 : decode cX6_readLine 21 = .ok (.ireturn, 1) := by decide +kernel
theorem dX6_readLine_22 : decode cX6_readLine 22 = .ok (.aload_n 1, 1) := by decide +kernel
theorem dX6_readLine_23 : decode cX6_readLine 23 = .ok (.invokevirtual 64, 3) := by decide +kernel
theorem dX6_readLine_26 : decode cX6_readLine 26 = .ok (.aload_n 1, 1) := by decide +kernel
theorem dX6_readLine_27 : decode cX6_readLine 27 = .ok (.iconst 3, 1) := by decide +kernel
theorem dX6_readLine_28 : decode cX6_readLine 28 = .ok (.iconst 0, 1) := by decide +kernel
theorem dX6_readLine_29 : decode cX6_readLine 29 = .ok (.bipush 99, 2) := by decide +kernel
theorem dX6_readLine_31 : decode cX6_readLine 31 = .ok (.invokevirtual 67, 3) := by decide +kernel
theorem dX6_readLine_34 : decode cX6_readLine 34 = .ok (.ifCond .ne 5, 3) := by decide +kernel
theorem dX6_readLine_37 : decode cX6_readLine 37 = .ok (.iconst 0, 1) := by decide +kernel
theorem dX6_readLine_38 : decode cX6_readLine 38 = .ok (.ireturn, 1) := by decide +kernel
theorem dX6_readLine_39 : decode cX6_readLine 39 = .ok (.aload_n 0, 1) := by decide +kernel
theorem dX6_readLine_40 : decode cX6_readLine 40 = .ok (.getfield 15, 3) := by decide +kernel
theorem dX6_readLine_43 : decode cX6_readLine 43 = .ok (.iload_n 2, 1) := by decide +kernel
theorem dX6_readLine_44 : decode cX6_readLine 44 = .ok (.aload_n 1, 1) := by decide +kernel
theorem dX6_readLine_45 : decode cX6_readLine 45 = .ok (.getfield 71, 3) := by decide +kernel
theorem dX6_readLine_48 : decode cX6_readLine 48 = .ok (.iastore, 1) := by decide +kernel
theorem dX6_readLine_49 : decode cX6_readLine 49 = .ok (.aload_n 0, 1) := by decide +kernel
theorem dX6_readLine_50 : decode cX6_readLine 50 = .ok (.dup, 1) := by decide +kernel
theorem dX6_readLine_51 : decode cX6_readLine 51 = .ok (.getfield 28, 3) := by decide +kernel
theorem dX6_readLine_54 : decode cX6_readLine 54 = .ok (.iload_n 3, 1) := by decide +kernel
theorem dX6_readLine_55 : decode cX6_readLine 55 = .ok (.ifCond .eq 9, 3) := by decide +kernel
theorem dX6_readLine_58 : decode cX6_readLine 58 = .ok (.iconst 1, 1) := by decide +kernel
theorem dX6_readLine_59 : decode cX6_readLine 59 = .ok (.iload_n 2, 1) := by decide +kernel
theorem dX6_readLine_60 : decode cX6_readLine 60 = .ok (.ishl, 1) := by decide +kernel
theorem dX6_readLine_61 : decode cX6_readLine 61 = .ok (.goto 4, 3) := by decide +kernel
theorem dX6_readLine_64 : decode cX6_readLine 64 = .ok (.iconst 0, 1) := by decide +kernel
theorem dX6_readLine_65 : decode cX6_readLine 65 = .ok (.ior, 1) := by decide +kernel
theorem dX6_readLine_66 : decode cX6_readLine 66 = .ok (.putfield 28, 3) := by decide +kernel
theorem dX6_readLine_69 : decode cX6_readLine 69 = .ok (.aload_n 1, 1) := by decide +kernel
theorem dX6_readLine_70 : decode cX6_readLine 70 = .ok (.invokevirtual 64, 3) := by decide +kernel
theorem dX6_readLine_73 : decode cX6_readLine 73 = .ok (.aload_n 1, 1) := by decide +kernel
theorem dX6_readLine_74 : decode cX6_readLine 74 = .ok (.ldc 74, 2) := by decide +kernel
theorem dX6_readLine_76 : decode cX6_readLine 76 = .ok (.invokevirtual 76, 3) := by decide +kernel
theorem dX6_readLine_79 : decode cX6_readLine 79 = .ok (.ifCond .eq 12, 3) := by decide +kernel
theorem dX6_readLine_82 : decode cX6_readLine 82 = .ok (.aload_n 0, 1) := by decide +kernel
theorem dX6_readLine_83 : decode cX6_readLine 83 = .ok (.aload_n 1, 1) := by decide +kernel
theorem dX6_readLine_84 : decode cX6_readLine 84 = .ok (.iconst 0, 1) := by decide +kernel
theorem dX6_readLine_85 : decode cX6_readLine 85 = .ok (.invokevirtual 79, 3) := by decide +kernel
theorem dX6_readLine_88 : decode cX6_readLine 88 = .ok (.ifCond .eq 7, 3) := by decide +kernel
theorem dX6_readLine_91 : decode cX6_readLine 91 = .ok (.iconst 1, 1) := by decide +kernel
theorem dX6_readLine_92 : decode cX6_readLine 92 = .ok (.goto 4, 3) := by decide +kernel
theorem dX6_readLine_95 : decode cX6_readLine 95 = .ok (.iconst 0, 1) := by decide +kernel
theorem dX6_readLine_96 : decode cX6_readLine 96 = .ok (.ireturn, 1) := by decide +kernel
theorem dX6_readCondition_0 : decode cX6_readCondition 0 = .ok (.iconst 0, 1) := by decide +kernel
theorem dX6_readCondition_1 : decode cX6_readCondition 1 = .ok (.istore_n 3, 1) := by decide +kernel
theorem dX6_readCondition_2 : decode cX6_readCondition 2 = .ok (.iconst 0, 1) := by decide +kernel
theorem dX6_readCondition_3 : decode cX6_readCondition 3 = .ok (.istore 4, 2) := by decide +kernel
theorem dX6_readCondition_5 : decode cX6_readCondition 5 = .ok (.iconst 0, 1) := by decide +kernel
theorem dX6_readCondition_6 : decode cX6_readCondition 6 = .ok (.istore 5, 2) := by decide +kernel
theorem dX6_readCondition_8 : decode cX6_readCondition 8 = .ok (.iload 5, 2) := by decide +kernel
theorem dX6_readCondition_10 : decode cX6_readCondition 10 = .ok (.sipush 400, 3) := by decide +kernel
theorem dX6_readCondition_13 : decode cX6_readCondition 13 = .ok (.if_icmp .ge 77, 3) := by decide +kernel
theorem dX6_readCondition_16 : decode cX6_readCondition 16 = .ok (.aload_n 0, 1) := by decide +kernel
theorem dX6_readCondition_17 : decode cX6_readCondition 17 = .ok (.aload_n 1, 1) := by decide +kernel
theorem dX6_readCondition_18 : decode cX6_readCondition 18 = .ok (.iload_n 2, 1) := by decide +kernel
theorem dX6_readCondition_19 : decode cX6_readCondition 19 = .ok (.invokevirtual 82, 3) := by decide +kernel
theorem dX6_readCondition_22 : decode cX6_readCondition 22 = .ok (.ifCond .ne 5, 3) := by decide +kernel
theorem dX6_readCondition_25 : decode cX6_readCondition 25 = .ok (.iconst 0, 1) := by decide +kernel
theorem dX6_readCondition_26 : decode cX6_readCondition 26 = .ok (.ireturn, 1) := by decide +kernel
theorem dX6_readCondition_27 : decode cX6_readCondition 27 = .ok (.iload_n 3, 1) := by decide +kernel
theorem dX6_readCondition_28 : decode cX6_readCondition 28 = .ok (.ifCond .eq 10, 3) := by decide +kernel
theorem dX6_readCondition_31 : decode cX6_readCondition 31 = .ok (.aload_n 0, 1) := by decide +kernel
theorem dX6_readCondition_32 : decode cX6_readCondition 32 = .ok (.sipush 1010, 3) := by decide +kernel
theorem dX6_readCondition_35 : decode cX6_readCondition 35 = .ok (.invokevirtual 85, 3) := by decide +kernel
theorem dX6_readCondition_38 : decode cX6_readCondition 38 = .ok (.aload_n 1, 1) := by decide +kernel
theorem dX6_readCondition_39 : decode cX6_readCondition 39 = .ok (.ldc 89, 2) := by decide +kernel
theorem dX6_readCondition_41 : decode cX6_readCondition 41 = .ok (.invokevirtual 58, 3) := by decide +kernel
theorem dX6_readCondition_44 : decode cX6_readCondition 44 = .ok (.istore_n 3, 1) := by decide +kernel
theorem dX6_readCondition_45 : decode cX6_readCondition 45 = .ok (.iload_n 3, 1) := by decide +kernel
theorem dX6_readCondition_46 : decode cX6_readCondition 46 = .ok (.ifCond .ne 23, 3) := by decide +kernel
theorem dX6_readCondition_49 : decode cX6_readCondition 49 = .ok (.iload 4, 2) := by decide +kernel
theorem dX6_readCondition_51 : decode cX6_readCondition 51 = .ok (.ifCond .eq 10, 3) := by decide +kernel
theorem dX6_readCondition_54 : decode cX6_readCondition 54 = .ok (.aload_n 0, 1) := by decide +kernel
theorem dX6_readCondition_55 : decode cX6_readCondition 55 = .ok (.sipush 1011, 3) := by decide +kernel
theorem dX6_readCondition_58 : decode cX6_readCondition 58 = .ok (.invokevirtual 85, 3) := by decide +kernel
theorem dX6_readCondition_61 : decode cX6_readCondition 61 = .ok (.aload_n 1, 1) := by decide +kernel
theorem dX6_readCondition_62 : decode cX6_readCondition 62 = .ok (.ldc 91, 2) := by decide +kernel
theorem dX6_readCondition_64 : decode cX6_readCondition 64 = .ok (.invokevirtual 58, 3) := by decide +kernel
theorem dX6_readCondition_67 : decode cX6_readCondition 67 = .ok (.istore 4, 2) := by decide +kernel
theorem dX6_readCondition_69 : decode cX6_readCondition 69 = .ok (.iload_n 3, 1) := by decide +kernel
theorem dX6_readCondition_70 : decode cX6_readCondition 70 = .ok (.ifCond .ne 10, 3) := by decide +kernel
theorem dX6_readCondition_73 : decode cX6_readCondition 73 = .ok (.iload 4, 2) := by decide +kernel
theorem dX6_readCondition_75 : decode cX6_readCondition 75 = .ok (.ifCond .ne 5, 3) := by decide +kernel
theorem dX6_readCondition_78 : decode cX6_readCondition 78 = .ok (.iconst 1, 1) := by decide +kernel
theorem dX6_readCondition_79 : decode cX6_readCondition 79 = .ok (.ireturn, 1) := by decide +kernel
theorem dX6_readCondition_80 : decode cX6_readCondition 80 = .ok (.aload_n 1, 1) := by decide +kernel
theorem dX6_readCondition_81 : decode cX6_readCondition 81 = .ok (.invokevirtual 64, 3) := by decide +kernel
theorem dX6_readCondition_84 : decode cX6_readCondition 84 = .ok (.iinc 5 1, 3) := by decide +kernel
theorem dX6_readCondition_87 : decode cX6_readCondition 87 = .ok (.goto (-79), 3) := by decide +kernel
theorem dX6_readCondition_90 : decode cX6_readCondition 90 = .ok (.iconst 0, 1) := by decide +kernel
theorem dX6_readCondition_91 : decode cX6_readCondition 91 = .ok (.ireturn, 1) := by decide +kernel
theorem dX6_readAtom_0 : decode cX6_readAtom 0 = .ok (.aload_n 1, 1) := by decide +kernel
theorem dX6_readAtom_1 : decode cX6_readAtom 1 = .ok (.ldc 93, 2) := by decide +kernel
theorem dX6_readAtom_3 : decode cX6_readAtom 3 = .ok (.invokevirtual 58, 3) := by decide +kernel
theorem dX6_readAtom_6 : decode cX6_readAtom 6 = .ok (.istore_n 3, 1) := by decide +kernel
theorem dX6_readAtom_7 : decode cX6_readAtom 7 = .ok (.iload_n 3, 1) := by decide +kernel
theorem dX6_readAtom_8 : decode cX6_readAtom 8 = .ok (.ifCond .ne 12, 3) := by decide +kernel
theorem dX6_readAtom_11 : decode cX6_readAtom 11 = .ok (.aload_n 1, 1) := by decide +kernel
theorem dX6_readAtom_12 : decode cX6_readAtom 12 = .ok (.bipush 40, 2) := by decide +kernel
theorem dX6_readAtom_14 : decode cX6_readAtom 14 = .ok (.invokevirtual 95, 3) := by decide +kernel
theorem dX6_readAtom_17 : decode cX6_readAtom 17 = .ok (.ifCond .eq 56, 3) := by decide +kernel
theorem dX6_readAtom_20 : decode cX6_readAtom 20 = .ok (.iload_n 2, 1) := by decide +kernel
theorem dX6_readAtom_21 : decode cX6_readAtom 21 = .ok (.bipush 6, 2) := by decide +kernel
theorem dX6_readAtom_23 : decode cX6_readAtom 23 = .ok (.if_icmp .lt 5, 3) := by decide +kernel
theorem dX6_readAtom_26 : decode cX6_readAtom 26 = .ok (.iconst 0, 1) := by decide +kernel
theorem dX6_readAtom_27 : decode cX6_readAtom 27 = .ok (.ireturn, 1) := by decide +kernel
theorem dX6_readAtom_28 : decode cX6_readAtom 28 = .ok (.aload_n 1, 1) := by decide +kernel
theorem dX6_readAtom_29 : decode cX6_readAtom 29 = .ok (.invokevirtual 64, 3) := by decide +kernel
theorem dX6_readAtom_32 : decode cX6_readAtom 32 = .ok (.iload_n 3, 1) := by decide +kernel
theorem dX6_readAtom_33 : decode cX6_readAtom 33 = .ok (.ifCond .eq 14, 3) := by decide +kernel
theorem dX6_readAtom_36 : decode cX6_readAtom 36 = .ok (.aload_n 0, 1) := by decide +kernel
theorem dX6_readAtom_37 : decode cX6_readAtom 37 = .ok (.aload_n 1, 1) := by decide +kernel
theorem dX6_readAtom_38 : decode cX6_readAtom 38 = .ok (.iload_n 2, 1) := by decide +kernel
theorem dX6_readAtom_39 : decode cX6_readAtom 39 = .ok (.iconst 1, 1) := by decide +kernel
theorem dX6_readAtom_40 : decode cX6_readAtom 40 = .ok (.iadd, 1) := by decide +kernel
theorem dX6_readAtom_41 : decode cX6_readAtom 41 = .ok (.invokevirtual 98, 3) := by decide +kernel
theorem dX6_readAtom_44 : decode cX6_readAtom 44 = .ok (.goto 28, 3) := by decide +kernel
theorem dX6_readAtom_47 : decode cX6_readAtom 47 = .ok (.aload_n 0, 1) := by decide +kernel
theorem dX6_readAtom_48 : decode cX6_readAtom 48 = .ok (.aload_n 1, 1) := by decide +kernel
theorem dX6_readAtom_49 : decode cX6_readAtom 49 = .ok (.iload_n 2, 1) := by decide +kernel
theorem dX6_readAtom_50 : decode cX6_readAtom 50 = .ok (.iconst 1, 1) := by decide +kernel
theorem dX6_readAtom_51 : decode cX6_readAtom 51 = .ok (.iadd, 1) := by decide +kernel
theorem dX6_readAtom_52 : decode cX6_readAtom 52 = .ok (.invokevirtual 79, 3) := by decide +kernel
theorem dX6_readAtom_55 : decode cX6_readAtom 55 = .ok (.ifCond .eq 16, 3) := by decide +kernel
theorem dX6_readAtom_58 : decode cX6_readAtom 58 = .ok (.aload_n 1, 1) := by decide +kernel
theorem dX6_readAtom_59 : decode cX6_readAtom 59 = .ok (.bipush 41, 2) := by decide +kernel
theorem dX6_readAtom_61 : decode cX6_readAtom 61 = .ok (.invokevirtual 41, 3) := by decide +kernel
theorem dX6_readAtom_64 : decode cX6_readAtom 64 = .ok (.ifCond .eq 7, 3) := by decide +kernel
theorem dX6_readAtom_67 : decode cX6_readAtom 67 = .ok (.iconst 1, 1) := by decide +kernel
theorem dX6_readAtom_68 : decode cX6_readAtom 68 = .ok (.goto 4, 3) := by decide +kernel
theorem dX6_readAtom_71 : decode cX6_readAtom 71 = .ok (.iconst 0, 1) := by decide +kernel
theorem dX6_readAtom_72 : decode cX6_readAtom 72 = .ok (.ireturn, 1) := by decide +kernel
theorem dX6_readAtom_73 : decode cX6_readAtom 73 = .ok (.aload_n 1, 1) := by decide +kernel
theorem dX6_readAtom_74 : decode cX6_readAtom 74 = .ok (.ldc 101, 2) := by decide +kernel
theorem dX6_readAtom_76 : decode cX6_readAtom 76 = .ok (.invokevirtual 76, 3) := by decide +kernel
theorem dX6_readAtom_79 : decode cX6_readAtom 79 = .ok (.ifCond .eq 12, 3) := by decide +kernel
theorem dX6_readAtom_82 : decode cX6_readAtom 82 = .ok (.aload_n 0, 1) := by decide +kernel
theorem dX6_readAtom_83 : decode cX6_readAtom 83 = .ok (.sipush 1005, 3) := by decide +kernel
theorem dX6_readAtom_86 : decode cX6_readAtom 86 = .ok (.invokevirtual 85, 3) := by decide +kernel
theorem dX6_readAtom_89 : decode cX6_readAtom 89 = .ok (.iconst 1, 1) := by decide +kernel
theorem dX6_readAtom_90 : decode cX6_readAtom 90 = .ok (.ireturn, 1) := by decide +kernel
theorem dX6_readAtom_91 : decode cX6_readAtom 91 = .ok (.aload_n 1, 1) := by decide +kernel
theorem dX6_readAtom_92 : decode cX6_readAtom 92 = .ok (.ldc 103, 2) := by decide +kernel
theorem dX6_readAtom_94 : decode cX6_readAtom 94 = .ok (.invokevirtual 76, 3) := by decide +kernel
theorem dX6_readAtom_97 : decode cX6_readAtom 97 = .ok (.ifCond .eq 12, 3) := by decide +kernel
theorem dX6_readAtom_100 : decode cX6_readAtom 100 = .ok (.aload_n 0, 1) := by decide +kernel
theorem dX6_readAtom_101 : decode cX6_readAtom 101 = .ok (.sipush 1006, 3) := by decide +kernel
theorem dX6_readAtom_104 : decode cX6_readAtom 104 = .ok (.invokevirtual 85, 3) := by decide +kernel
theorem dX6_readAtom_107 : decode cX6_readAtom 107 = .ok (.iconst 1, 1) := by decide +kernel
theorem dX6_readAtom_108 : decode cX6_readAtom 108 = .ok (.ireturn, 1) := by decide +kernel
theorem dX6_readAtom_109 : decode cX6_readAtom 109 = .ok (.aload_n 0, 1) := by decide +kernel
theorem dX6_readAtom_110 : decode cX6_readAtom 110 = .ok (.aload_n 1, 1) := by decide +kernel
theorem dX6_readAtom_111 : decode cX6_readAtom 111 = .ok (.invokevirtual 105, 3) := by decide +kernel
theorem dX6_readAtom_114 : decode cX6_readAtom 114 = .ok (.ifCond .ne 5, 3) := by decide +kernel
theorem dX6_readAtom_117 : decode cX6_readAtom 117 = .ok (.iconst 0, 1) := by decide +kernel
theorem dX6_readAtom_118 : decode cX6_readAtom 118 = .ok (.ireturn, 1) := by decide +kernel
theorem dX6_readAtom_119 : decode cX6_readAtom 119 = .ok (.aload_n 1, 1) := by decide +kernel
theorem dX6_readAtom_120 : decode cX6_readAtom 120 = .ok (.bipush 60, 2) := by decide +kernel
theorem dX6_readAtom_122 : decode cX6_readAtom 122 = .ok (.invokevirtual 95, 3) := by decide +kernel
theorem dX6_readAtom_125 : decode cX6_readAtom 125 = .ok (.istore 4, 2) := by decide +kernel
theorem dX6_readAtom_127 : decode cX6_readAtom 127 = .ok (.iload 4, 2) := by decide +kernel
theorem dX6_readAtom_129 : decode cX6_readAtom 129 = .ok (.ifCond .ne 14, 3) := by decide +kernel
theorem dX6_readAtom_132 : decode cX6_readAtom 132 = .ok (.aload_n 1, 1) := by decide +kernel
theorem dX6_readAtom_133 : decode cX6_readAtom 133 = .ok (.bipush 62, 2) := by decide +kernel
theorem dX6_readAtom_135 : decode cX6_readAtom 135 = .ok (.invokevirtual 95, 3) := by decide +kernel
theorem dX6_readAtom_138 : decode cX6_readAtom 138 = .ok (.ifCond .ne 5, 3) := by decide +kernel
theorem dX6_readAtom_141 : decode cX6_readAtom 141 = .ok (.iconst 0, 1) := by decide +kernel
theorem dX6_readAtom_142 : decode cX6_readAtom 142 = .ok (.ireturn, 1) := by decide +kernel
theorem dX6_readAtom_143 : decode cX6_readAtom 143 = .ok (.aload_n 1, 1) := by decide +kernel
theorem dX6_readAtom_144 : decode cX6_readAtom 144 = .ok (.invokevirtual 64, 3) := by decide +kernel
theorem dX6_readAtom_147 : decode cX6_readAtom 147 = .ok (.aload_n 0, 1) := by decide +kernel
theorem dX6_readAtom_148 : decode cX6_readAtom 148 = .ok (.aload_n 1, 1) := by decide +kernel
theorem dX6_readAtom_149 : decode cX6_readAtom 149 = .ok (.invokevirtual 105, 3) := by decide +kernel
theorem dX6_readAtom_152 : decode cX6_readAtom 152 = .ok (.istore 5, 2) := by decide +kernel
theorem dX6_readAtom_154 : decode cX6_readAtom 154 = .ok (.aload_n 0, 1) := by decide +kernel
theorem dX6_readAtom_155 : decode cX6_readAtom 155 = .ok (.iload 4, 2) := by decide +kernel
theorem dX6_readAtom_157 : decode cX6_readAtom 157 = .ok (.ifCond .eq 9, 3) := by decide +kernel
theorem dX6_readAtom_160 : decode cX6_readAtom 160 = .ok (.sipush 1008, 3) := by decide +kernel
theorem dX6_readAtom_163 : decode cX6_readAtom 163 = .ok (.goto 6, 3) := by decide +kernel
theorem dX6_readAtom_166 : decode cX6_readAtom 166 = .ok (.sipush 1009, 3) := by decide +kernel
theorem dX6_readAtom_169 : decode cX6_readAtom 169 = .ok (.invokevirtual 85, 3) := by decide +kernel
theorem dX6_readAtom_172 : decode cX6_readAtom 172 = .ok (.iload 5, 2) := by decide +kernel
theorem dX6_readAtom_174 : decode cX6_readAtom 174 = .ok (.ireturn, 1) := by decide +kernel
theorem dX6_readDenied_0 : decode cX6_readDenied 0 = .ok (.aload_n 0, 1) := by decide +kernel
theorem dX6_readDenied_1 : decode cX6_readDenied 1 = .ok (.aload_n 1, 1) := by decide +kernel
theorem dX6_readDenied_2 : decode cX6_readDenied 2 = .ok (.iload_n 2, 1) := by decide +kernel
theorem dX6_readDenied_3 : decode cX6_readDenied 3 = .ok (.invokevirtual 82, 3) := by decide +kernel
theorem dX6_readDenied_6 : decode cX6_readDenied 6 = .ok (.ifCond .ne 5, 3) := by decide +kernel
theorem dX6_readDenied_9 : decode cX6_readDenied 9 = .ok (.iconst 0, 1) := by decide +kernel
theorem dX6_readDenied_10 : decode cX6_readDenied 10 = .ok (.ireturn, 1) := by decide +kernel
theorem dX6_readDenied_11 : decode cX6_readDenied 11 = .ok (.aload_n 0, 1) := by decide +kernel
theorem dX6_readDenied_12 : decode cX6_readDenied 12 = .ok (.sipush 1012, 3) := by decide +kernel
theorem dX6_readDenied_15 : decode cX6_readDenied 15 = .ok (.invokevirtual 85, 3) := by decide +kernel
theorem dX6_readDenied_18 : decode cX6_readDenied 18 = .ok (.iconst 1, 1) := by decide +kernel
theorem dX6_readDenied_19 : decode cX6_readDenied 19 = .ok (.ireturn, 1) := by decide +kernel
theorem dX6_readSum_0 : decode cX6_readSum 0 = .ok (.iconst 0, 1) := by decide +kernel
theorem dX6_readSum_1 : decode cX6_readSum 1 = .ok (.istore_n 2, 1) := by decide +kernel
theorem dX6_readSum_2 : decode cX6_readSum 2 = .ok (.iload_n 2, 1) := by decide +kernel
theorem dX6_readSum_3 : decode cX6_readSum 3 = .ok (.sipush 400, 3) := by decide +kernel
theorem dX6_readSum_6 : decode cX6_readSum 6 = .ok (.if_icmp .ge 147, 3) := by decide +kernel
theorem dX6_readSum_9 : decode cX6_readSum 9 = .ok (.aload_n 1, 1) := by decide +kernel
theorem dX6_readSum_10 : decode cX6_readSum 10 = .ok (.iconst 3, 1) := by decide +kernel
theorem dX6_readSum_11 : decode cX6_readSum 11 = .ok (.iconst 0, 1) := by decide +kernel
theorem dX6_readSum_12 : decode cX6_readSum 12 = .ok (.sipush 999, 3) := by decide +kernel
theorem dX6_readSum_15 : decode cX6_readSum 15 = .ok (.invokevirtual 67, 3) := by decide +kernel
theorem dX6_readSum_18 : decode cX6_readSum 18 = .ok (.ifCond .eq 10, 3) := by decide +kernel
theorem dX6_readSum_21 : decode cX6_readSum 21 = .ok (.aload_n 1, 1) := by decide +kernel
theorem dX6_readSum_22 : decode cX6_readSum 22 = .ok (.getfield 71, 3) := by decide +kernel
theorem dX6_readSum_25 : decode cX6_readSum 25 = .ok (.goto 79, 3) := by decide +kernel
theorem dX6_readSum_28 : decode cX6_readSum 28 = .ok (.aload_n 1, 1) := by decide +kernel
theorem dX6_readSum_29 : decode cX6_readSum 29 = .ok (.ldc 109, 2) := by decide +kernel
theorem dX6_readSum_31 : decode cX6_readSum 31 = .ok (.invokevirtual 58, 3) := by decide +kernel
theorem dX6_readSum_34 : decode cX6_readSum 34 = .ok (.ifCond .eq 9, 3) := by decide +kernel
theorem dX6_readSum_37 : decode cX6_readSum 37 = .ok (.sipush 1000, 3) := by decide +kernel
theorem dX6_readSum_40 : decode cX6_readSum 40 = .ok (.goto 64, 3) := by decide +kernel
theorem dX6_readSum_43 : decode cX6_readSum 43 = .ok (.aload_n 1, 1) := by decide +kernel
theorem dX6_readSum_44 : decode cX6_readSum 44 = .ok (.ldc 111, 2) := by decide +kernel
theorem dX6_readSum_46 : decode cX6_readSum 46 = .ok (.invokevirtual 58, 3) := by decide +kernel
theorem dX6_readSum_49 : decode cX6_readSum 49 = .ok (.ifCond .eq 9, 3) := by decide +kernel
theorem dX6_readSum_52 : decode cX6_readSum 52 = .ok (.sipush 1001, 3) := by decide +kernel
theorem dX6_readSum_55 : decode cX6_readSum 55 = .ok (.goto 49, 3) := by decide +kernel
theorem dX6_readSum_58 : decode cX6_readSum 58 = .ok (.aload_n 1, 1) := by decide +kernel
theorem dX6_readSum_59 : decode cX6_readSum 59 = .ok (.ldc 113, 2) := by decide +kernel
theorem dX6_readSum_61 : decode cX6_readSum 61 = .ok (.invokevirtual 58, 3) := by decide +kernel
theorem dX6_readSum_64 : decode cX6_readSum 64 = .ok (.ifCond .eq 9, 3) := by decide +kernel
theorem dX6_readSum_67 : decode cX6_readSum 67 = .ok (.sipush 1002, 3) := by decide +kernel
theorem dX6_readSum_70 : decode cX6_readSum 70 = .ok (.goto 34, 3) := by decide +kernel
theorem dX6_readSum_73 : decode cX6_readSum 73 = .ok (.aload_n 1, 1) := by decide +kernel
theorem dX6_readSum_74 : decode cX6_readSum 74 = .ok (.ldc 115, 2) := by decide +kernel
theorem dX6_readSum_76 : decode cX6_readSum 76 = .ok (.invokevirtual 58, 3) := by decide +kernel
theorem dX6_readSum_79 : decode cX6_readSum 79 = .ok (.ifCond .eq 9, 3) := by decide +kernel
theorem dX6_readSum_82 : decode cX6_readSum 82 = .ok (.sipush 1003, 3) := by decide +kernel
theorem dX6_readSum_85 : decode cX6_readSum 85 = .ok (.goto 19, 3) := by decide +kernel
theorem dX6_readSum_88 : decode cX6_readSum 88 = .ok (.aload_n 1, 1) := by decide +kernel
theorem dX6_readSum_89 : decode cX6_readSum 89 = .ok (.ldc 117, 2) := by decide +kernel
theorem dX6_readSum_91 : decode cX6_readSum 91 = .ok (.invokevirtual 58, 3) := by decide +kernel
theorem dX6_readSum_94 : decode cX6_readSum 94 = .ok (.ifCond .eq 9, 3) := by decide +kernel
theorem dX6_readSum_97 : decode cX6_readSum 97 = .ok (.sipush 1004, 3) := by decide +kernel
theorem dX6_readSum_100 : decode cX6_readSum 100 = .ok (.goto 4, 3) := by decide +kernel
theorem dX6_readSum_103 : decode cX6_readSum 103 = .ok (.iconst (-1), 1) := by decide +kernel
theorem dX6_readSum_104 : decode cX6_readSum 104 = .ok (.istore_n 3, 1) := by decide +kernel
theorem dX6_readSum_105 : decode cX6_readSum 105 = .ok (.iload_n 3, 1) := by decide +kernel
theorem dX6_readSum_106 : decode cX6_readSum 106 = .ok (.iconst (-1), 1) := by decide +kernel
theorem dX6_readSum_107 : decode cX6_readSum 107 = .ok (.if_icmp .ne 5, 3) := by decide +kernel
theorem dX6_readSum_110 : decode cX6_readSum 110 = .ok (.iconst 0, 1) := by decide +kernel
theorem dX6_readSum_111 : decode cX6_readSum 111 = .ok (.ireturn, 1) := by decide +kernel
theorem dX6_readSum_112 : decode cX6_readSum 112 = .ok (.aload_n 0, 1) := by decide +kernel
theorem dX6_readSum_113 : decode cX6_readSum 113 = .ok (.iload_n 3, 1) := by decide +kernel
theorem dX6_readSum_114 : decode cX6_readSum 114 = .ok (.invokevirtual 85, 3) := by decide +kernel
theorem dX6_readSum_117 : decode cX6_readSum 117 = .ok (.aload_n 1, 1) := by decide +kernel
theorem dX6_readSum_118 : decode cX6_readSum 118 = .ok (.invokevirtual 64, 3) := by decide +kernel
theorem dX6_readSum_121 : decode cX6_readSum 121 = .ok (.iload_n 2, 1) := by decide +kernel
theorem dX6_readSum_122 : decode cX6_readSum 122 = .ok (.ifCond .le 10, 3) := by decide +kernel
theorem dX6_readSum_125 : decode cX6_readSum 125 = .ok (.aload_n 0, 1) := by decide +kernel
theorem dX6_readSum_126 : decode cX6_readSum 126 = .ok (.sipush 1007, 3) := by decide +kernel
theorem dX6_readSum_129 : decode cX6_readSum 129 = .ok (.invokevirtual 85, 3) := by decide +kernel
theorem dX6_readSum_132 : decode cX6_readSum 132 = .ok (.aload_n 1, 1) := by decide +kernel
theorem dX6_readSum_133 : decode cX6_readSum 133 = .ok (.bipush 43, 2) := by decide +kernel
theorem dX6_readSum_135 : decode cX6_readSum 135 = .ok (.invokevirtual 95, 3) := by decide +kernel
theorem dX6_readSum_138 : decode cX6_readSum 138 = .ok (.ifCond .ne 5, 3) := by decide +kernel
theorem dX6_readSum_141 : decode cX6_readSum 141 = .ok (.iconst 1, 1) := by decide +kernel
theorem dX6_readSum_142 : decode cX6_readSum 142 = .ok (.ireturn, 1) := by decide +kernel
theorem dX6_readSum_143 : decode cX6_readSum 143 = .ok (.aload_n 1, 1) := by decide +kernel
theorem dX6_readSum_144 : decode cX6_readSum 144 = .ok (.invokevirtual 64, 3) := by decide +kernel
theorem dX6_readSum_147 : decode cX6_readSum 147 = .ok (.iinc 2 1, 3) := by decide +kernel
theorem dX6_readSum_150 : decode cX6_readSum 150 = .ok (.goto (-148), 3) := by decide +kernel
theorem dX6_readSum_153 : decode cX6_readSum 153 = .ok (.iconst 0, 1) := by decide +kernel
theorem dX6_readSum_154 : decode cX6_readSum 154 = .ok (.ireturn, 1) := by decide +kernel
theorem dX6_emit_0 : decode cX6_emit 0 = .ok (.aload_n 0, 1) := by decide +kernel
theorem dX6_emit_1 : decode cX6_emit 1 = .ok (.getfield 21, 3) := by decide +kernel
theorem dX6_emit_4 : decode cX6_emit 4 = .ok (.aload_n 0, 1) := by decide +kernel
theorem dX6_emit_5 : decode cX6_emit 5 = .ok (.getfield 9, 3) := by decide +kernel
theorem dX6_emit_8 : decode cX6_emit 8 = .ok (.arraylength, 1) := by decide +kernel
theorem dX6_emit_9 : decode cX6_emit 9 = .ok (.if_icmp .ge 23, 3) := by decide +kernel
theorem dX6_emit_12 : decode cX6_emit 12 = .ok (.aload_n 0, 1) := by decide +kernel
theorem dX6_emit_13 : decode cX6_emit 13 = .ok (.getfield 9, 3) := by decide +kernel
theorem dX6_emit_16 : decode cX6_emit 16 = .ok (.aload_n 0, 1) := by decide +kernel
theorem dX6_emit_17 : decode cX6_emit 17 = .ok (.getfield 21, 3) := by decide +kernel
theorem dX6_emit_20 : decode cX6_emit 20 = .ok (.iload_n 1, 1) := by decide +kernel
theorem dX6_emit_21 : decode cX6_emit 21 = .ok (.iastore, 1) := by decide +kernel
theorem dX6_emit_22 : decode cX6_emit 22 = .ok (.aload_n 0, 1) := by decide +kernel
theorem dX6_emit_23 : decode cX6_emit 23 = .ok (.dup, 1) := by decide +kernel
theorem dX6_emit_24 : decode cX6_emit 24 = .ok (.getfield 21, 3) := by decide +kernel
theorem dX6_emit_27 : decode cX6_emit 27 = .ok (.iconst 1, 1) := by decide +kernel
theorem dX6_emit_28 : decode cX6_emit 28 = .ok (.iadd, 1) := by decide +kernel
theorem dX6_emit_29 : decode cX6_emit 29 = .ok (.putfield 21, 3) := by decide +kernel
theorem dX6_emit_32 : decode cX6_emit 32 = .ok (.return_, 1) := by decide +kernel
theorem dX7_init_0 : decode cX7_init 0 = .ok (.aload_n 0, 1) := by decide +kernel
theorem dX7_init_1 : decode cX7_init 1 = .ok (.invokespecial 3, 3) := by decide +kernel
theorem dX7_init_4 : decode cX7_init 4 = .ok (.aload_n 0, 1) := by decide +kernel
theorem dX7_init_5 : decode cX7_init 5 = .ok (.sipush 240, 3) := by decide +kernel
theorem dX7_init_8 : decode cX7_init 8 = .ok (.newarray .int, 2) := by decide +kernel
theorem dX7_init_10 : decode cX7_init 10 = .ok (.putfield 9, 3) := by decide +kernel
theorem dX7_init_13 : decode cX7_init 13 = .ok (.return_, 1) := by decide +kernel
theorem dX7_takeFrom_0 : decode cX7_takeFrom 0 = .ok (.aload_n 1, 1) := by decide +kernel
theorem dX7_takeFrom_1 : decode cX7_takeFrom 1 = .ok (.getfield 9, 3) := by decide +kernel
theorem dX7_takeFrom_4 : decode cX7_takeFrom 4 = .ok (.iconst 0, 1) := by decide +kernel
theorem dX7_takeFrom_5 : decode cX7_takeFrom 5 = .ok (.aload_n 0, 1) := by decide +kernel
theorem dX7_takeFrom_6 : decode cX7_takeFrom 6 = .ok (.getfield 9, 3) := by decide +kernel
theorem dX7_takeFrom_9 : decode cX7_takeFrom 9 = .ok (.iconst 0, 1) := by decide +kernel
theorem dX7_takeFrom_10 : decode cX7_takeFrom 10 = .ok (.sipush 240, 3) := by decide +kernel
theorem dX7_takeFrom_13 : decode cX7_takeFrom 13 = .ok (.invokestatic 15, 3) := by decide +kernel
theorem dX7_takeFrom_16 : decode cX7_takeFrom 16 = .ok (.aload_n 0, 1) := by decide +kernel
theorem dX7_takeFrom_17 : decode cX7_takeFrom 17 = .ok (.aload_n 1, 1) := by decide +kernel
theorem dX7_takeFrom_18 : decode cX7_takeFrom 18 = .ok (.getfield 21, 3) := by decide +kernel
theorem dX7_takeFrom_21 : decode cX7_takeFrom 21 = .ok (.putfield 21, 3) := by decide +kernel
theorem dX7_takeFrom_24 : decode cX7_takeFrom 24 = .ok (.aload_n 0, 1) := by decide +kernel
theorem dX7_takeFrom_25 : decode cX7_takeFrom 25 = .ok (.aload_n 1, 1) := by decide +kernel
theorem dX7_takeFrom_26 : decode cX7_takeFrom 26 = .ok (.getfield 25, 3) := by decide +kernel
theorem dX7_takeFrom_29 : decode cX7_takeFrom 29 = .ok (.putfield 25, 3) := by decide +kernel
theorem dX7_takeFrom_32 : decode cX7_takeFrom 32 = .ok (.return_, 1) := by decide +kernel
theorem dX7_add_0 : decode cX7_add 0 = .ok (.aload_n 0, 1) := by decide +kernel
theorem dX7_add_1 : decode cX7_add 1 = .ok (.getfield 25, 3) := by decide +kernel
theorem dX7_add_4 : decode cX7_add 4 = .ok (.iconst 4, 1) := by decide +kernel
theorem dX7_add_5 : decode cX7_add 5 = .ok (.imul, 1) := by decide +kernel
theorem dX7_add_6 : decode cX7_add 6 = .ok (.istore 5, 2) := by decide +kernel
theorem dX7_add_8 : decode cX7_add 8 = .ok (.aload_n 0, 1) := by decide +kernel
theorem dX7_add_9 : decode cX7_add 9 = .ok (.getfield 9, 3) := by decide +kernel
theorem dX7_add_12 : decode cX7_add 12 = .ok (.iload 5, 2) := by decide +kernel
theorem dX7_add_14 : decode cX7_add 14 = .ok (.iload_n 1, 1) := by decide +kernel
theorem dX7_add_15 : decode cX7_add 15 = .ok (.iastore, 1) := by decide +kernel
theorem dX7_add_16 : decode cX7_add 16 = .ok (.aload_n 0, 1) := by decide +kernel
theorem dX7_add_17 : decode cX7_add 17 = .ok (.getfield 9, 3) := by decide +kernel
theorem dX7_add_20 : decode cX7_add 20 = .ok (.iload 5, 2) := by decide +kernel
theorem dX7_add_22 : decode cX7_add 22 = .ok (.iconst 1, 1) := by decide +kernel
theorem dX7_add_23 : decode cX7_add 23 = .ok (.iadd, 1) := by decide +kernel
theorem dX7_add_24 : decode cX7_add 24 = .ok (.iload_n 2, 1) := by decide +kernel
theorem dX7_add_25 : decode cX7_add 25 = .ok (.iastore, 1) := by decide +kernel
theorem dX7_add_26 : decode cX7_add 26 = .ok (.aload_n 0, 1) := by decide +kernel
theorem dX7_add_27 : decode cX7_add 27 = .ok (.getfield 9, 3) := by decide +kernel
theorem dX7_add_30 : decode cX7_add 30 = .ok (.iload 5, 2) := by decide +kernel
theorem dX7_add_32 : decode cX7_add 32 = .ok (.iconst 2, 1) := by decide +kernel
theorem dX7_add_33 : decode cX7_add 33 = .ok (.iadd, 1) := by decide +kernel
theorem dX7_add_34 : decode cX7_add 34 = .ok (.iload_n 3, 1) := by decide +kernel
theorem dX7_add_35 : decode cX7_add 35 = .ok (.iastore, 1) := by decide +kernel
theorem dX7_add_36 : decode cX7_add 36 = .ok (.aload_n 0, 1) := by decide +kernel
theorem dX7_add_37 : decode cX7_add 37 = .ok (.getfield 9, 3) := by decide +kernel
theorem dX7_add_40 : decode cX7_add 40 = .ok (.iload 5, 2) := by decide +kernel
theorem dX7_add_42 : decode cX7_add 42 = .ok (.iconst 3, 1) := by decide +kernel
theorem dX7_add_43 : decode cX7_add 43 = .ok (.iadd, 1) := by decide +kernel
theorem dX7_add_44 : decode cX7_add 44 = .ok (.iload 4, 2) := by decide +kernel
theorem dX7_add_46 : decode cX7_add 46 = .ok (.iastore, 1) := by decide +kernel
theorem dX7_add_47 : decode cX7_add 47 = .ok (.aload_n 0, 1) := by decide +kernel
theorem dX7_add_48 : decode cX7_add 48 = .ok (.aload_n 0, 1) := by decide +kernel
theorem dX7_add_49 : decode cX7_add 49 = .ok (.getfield 25, 3) := by decide +kernel
theorem dX7_add_52 : decode cX7_add 52 = .ok (.iconst 1, 1) := by decide +kernel
theorem dX7_add_53 : decode cX7_add 53 = .ok (.iadd, 1) := by decide +kernel
theorem dX7_add_54 : decode cX7_add 54 = .ok (.bipush 60, 2) := by decide +kernel
theorem dX7_add_56 : decode cX7_add 56 = .ok (.irem, 1) := by decide +kernel
theorem dX7_add_57 : decode cX7_add 57 = .ok (.putfield 25, 3) := by decide +kernel
theorem dX7_add_60 : decode cX7_add 60 = .ok (.aload_n 0, 1) := by decide +kernel
theorem dX7_add_61 : decode cX7_add 61 = .ok (.bipush 60, 2) := by decide +kernel
theorem dX7_add_63 : decode cX7_add 63 = .ok (.aload_n 0, 1) := by decide +kernel
theorem dX7_add_64 : decode cX7_add 64 = .ok (.getfield 21, 3) := by decide +kernel
theorem dX7_add_67 : decode cX7_add 67 = .ok (.iconst 1, 1) := by decide +kernel
theorem dX7_add_68 : decode cX7_add 68 = .ok (.iadd, 1) := by decide +kernel
theorem dX7_add_69 : decode cX7_add 69 = .ok (.invokestatic 28, 3) := by decide +kernel
theorem dX7_add_72 : decode cX7_add 72 = .ok (.putfield 21, 3) := by decide +kernel
theorem dX7_add_75 : decode cX7_add 75 = .ok (.return_, 1) := by decide +kernel
theorem dX7_entry_0 : decode cX7_entry 0 = .ok (.iload_n 1, 1) := by decide +kernel
theorem dX7_entry_1 : decode cX7_entry 1 = .ok (.ifCond .lt 11, 3) := by decide +kernel
theorem dX7_entry_4 : decode cX7_entry 4 = .ok (.iload_n 1, 1) := by decide +kernel
theorem dX7_entry_5 : decode cX7_entry 5 = .ok (.aload_n 0, 1) := by decide +kernel
theorem dX7_entry_6 : decode cX7_entry 6 = .ok (.getfield 21, 3) := by decide +kernel
theorem dX7_entry_9 : decode cX7_entry 9 = .ok (.if_icmp .lt 5, 3) := by decide +kernel
theorem dX7_entry_12 : decode cX7_entry 12 = .ok (.iconst (-1), 1) := by decide +kernel
theorem dX7_entry_13 : decode cX7_entry 13 = .ok (.ireturn, 1) := by decide +kernel
theorem dX7_entry_14 : decode cX7_entry 14 = .ok (.aload_n 0, 1) := by decide +kernel
theorem dX7_entry_15 : decode cX7_entry 15 = .ok (.getfield 25, 3) := by decide +kernel
theorem dX7_entry_18 : decode cX7_entry 18 = .ok (.bipush 60, 2) := by decide +kernel
theorem dX7_entry_20 : decode cX7_entry 20 = .ok (.iadd, 1) := by decide +kernel
theorem dX7_entry_21 : decode cX7_entry 21 = .ok (.iconst 1, 1) := by decide +kernel
theorem dX7_entry_22 : decode cX7_entry 22 = .ok (.isub, 1) := by decide +kernel
theorem dX7_entry_23 : decode cX7_entry 23 = .ok (.iload_n 1, 1) := by decide +kernel
theorem dX7_entry_24 : decode cX7_entry 24 = .ok (.isub, 1) := by decide +kernel
theorem dX7_entry_25 : decode cX7_entry 25 = .ok (.bipush 60, 2) := by decide +kernel
theorem dX7_entry_27 : decode cX7_entry 27 = .ok (.irem, 1) := by decide +kernel
theorem dX7_entry_28 : decode cX7_entry 28 = .ok (.istore_n 3, 1) := by decide +kernel
theorem dX7_entry_29 : decode cX7_entry 29 = .ok (.aload_n 0, 1) := by decide +kernel
theorem dX7_entry_30 : decode cX7_entry 30 = .ok (.getfield 9, 3) := by decide +kernel
theorem dX7_entry_33 : decode cX7_entry 33 = .ok (.iload_n 3, 1) := by decide +kernel
theorem dX7_entry_34 : decode cX7_entry 34 = .ok (.iconst 4, 1) := by decide +kernel
theorem dX7_entry_35 : decode cX7_entry 35 = .ok (.imul, 1) := by decide +kernel
theorem dX7_entry_36 : decode cX7_entry 36 = .ok (.iload_n 2, 1) := by decide +kernel
theorem dX7_entry_37 : decode cX7_entry 37 = .ok (.iadd, 1) := by decide +kernel
theorem dX7_entry_38 : decode cX7_entry 38 = .ok (.iaload, 1) := by decide +kernel
theorem dX7_entry_39 : decode cX7_entry 39 = .ok (.ireturn, 1) := by decide +kernel
theorem dX7_rowsOf_0 : decode cX7_rowsOf 0 = .ok (.iconst 0, 1) := by decide +kernel
theorem dX7_rowsOf_1 : decode cX7_rowsOf 1 = .ok (.istore_n 2, 1) := by decide +kernel
theorem dX7_rowsOf_2 : decode cX7_rowsOf 2 = .ok (.iconst 0, 1) := by decide +kernel
theorem dX7_rowsOf_3 : decode cX7_rowsOf 3 = .ok (.istore_n 3, 1) := by decide +kernel
theorem dX7_rowsOf_4 : decode cX7_rowsOf 4 = .ok (.iload_n 3, 1) := by decide +kernel
theorem dX7_rowsOf_5 : decode cX7_rowsOf 5 = .ok (.aload_n 0, 1) := by decide +kernel
theorem dX7_rowsOf_6 : decode cX7_rowsOf 6 = .ok (.getfield 21, 3) := by decide +kernel
theorem dX7_rowsOf_9 : decode cX7_rowsOf 9 = .ok (.if_icmp .ge 22, 3) := by decide +kernel
theorem dX7_rowsOf_12 : decode cX7_rowsOf 12 = .ok (.aload_n 0, 1) := by decide +kernel
theorem dX7_rowsOf_13 : decode cX7_rowsOf 13 = .ok (.iload_n 3, 1) := by decide +kernel
theorem dX7_rowsOf_14 : decode cX7_rowsOf 14 = .ok (.iconst 1, 1) := by decide +kernel
theorem dX7_rowsOf_15 : decode cX7_rowsOf 15 = .ok (.invokevirtual 34, 3) := by decide +kernel
theorem dX7_rowsOf_18 : decode cX7_rowsOf 18 = .ok (.iload_n 1, 1) := by decide +kernel
theorem dX7_rowsOf_19 : decode cX7_rowsOf 19 = .ok (.if_icmp .ne 6, 3) := by decide +kernel
theorem dX7_rowsOf_22 : decode cX7_rowsOf 22 = .ok (.iinc 2 1, 3) := by decide +kernel
theorem dX7_rowsOf_25 : decode cX7_rowsOf 25 = .ok (.iinc 3 1, 3) := by decide +kernel
theorem dX7_rowsOf_28 : decode cX7_rowsOf 28 = .ok (.goto (-24), 3) := by decide +kernel
theorem dX7_rowsOf_31 : decode cX7_rowsOf 31 = .ok (.iload_n 2, 1) := by decide +kernel
theorem dX7_rowsOf_32 : decode cX7_rowsOf 32 = .ok (.ireturn, 1) := by decide +kernel
theorem dX7_mostFeltBy_0 : decode cX7_mostFeltBy 0 = .ok (.iconst 0, 1) := by decide +kernel
theorem dX7_mostFeltBy_1 : decode cX7_mostFeltBy 1 = .ok (.istore_n 2, 1) := by decide +kernel
theorem dX7_mostFeltBy_2 : decode cX7_mostFeltBy 2 = .ok (.iconst 0, 1) := by decide +kernel
theorem dX7_mostFeltBy_3 : decode cX7_mostFeltBy 3 = .ok (.istore_n 3, 1) := by decide +kernel
theorem dX7_mostFeltBy_4 : decode cX7_mostFeltBy 4 = .ok (.iload_n 3, 1) := by decide +kernel
theorem dX7_mostFeltBy_5 : decode cX7_mostFeltBy 5 = .ok (.aload_n 0, 1) := by decide +kernel
theorem dX7_mostFeltBy_6 : decode cX7_mostFeltBy 6 = .ok (.getfield 21, 3) := by decide +kernel
theorem dX7_mostFeltBy_9 : decode cX7_mostFeltBy 9 = .ok (.if_icmp .ge 30, 3) := by decide +kernel
theorem dX7_mostFeltBy_12 : decode cX7_mostFeltBy 12 = .ok (.aload_n 0, 1) := by decide +kernel
theorem dX7_mostFeltBy_13 : decode cX7_mostFeltBy 13 = .ok (.iload_n 3, 1) := by decide +kernel
theorem dX7_mostFeltBy_14 : decode cX7_mostFeltBy 14 = .ok (.iconst 1, 1) := by decide +kernel
theorem dX7_mostFeltBy_15 : decode cX7_mostFeltBy 15 = .ok (.invokevirtual 34, 3) := by decide +kernel
theorem dX7_mostFeltBy_18 : decode cX7_mostFeltBy 18 = .ok (.iload_n 1, 1) := by decide +kernel
theorem dX7_mostFeltBy_19 : decode cX7_mostFeltBy 19 = .ok (.if_icmp .ne 14, 3) := by decide +kernel
theorem dX7_mostFeltBy_22 : decode cX7_mostFeltBy 22 = .ok (.iload_n 2, 1) := by decide +kernel
theorem dX7_mostFeltBy_23 : decode cX7_mostFeltBy 23 = .ok (.aload_n 0, 1) := by decide +kernel
theorem dX7_mostFeltBy_24 : decode cX7_mostFeltBy 24 = .ok (.iload_n 3, 1) := by decide +kernel
theorem dX7_mostFeltBy_25 : decode cX7_mostFeltBy 25 = .ok (.iconst 2, 1) := by decide +kernel
theorem dX7_mostFeltBy_26 : decode cX7_mostFeltBy 26 = .ok (.invokevirtual 34, 3) := by decide +kernel
theorem dX7_mostFeltBy_29 : decode cX7_mostFeltBy 29 = .ok (.invokestatic 37, 3) := by decide +kernel
theorem dX7_mostFeltBy_32 : decode cX7_mostFeltBy 32 = .ok (.istore_n 2, 1) := by decide +kernel
theorem dX7_mostFeltBy_33 : decode cX7_mostFeltBy 33 = .ok (.iinc 3 1, 3) := by decide +kernel
theorem dX7_mostFeltBy_36 : decode cX7_mostFeltBy 36 = .ok (.goto (-32), 3) := by decide +kernel
theorem dX7_mostFeltBy_39 : decode cX7_mostFeltBy 39 = .ok (.iload_n 2, 1) := by decide +kernel
theorem dX7_mostFeltBy_40 : decode cX7_mostFeltBy 40 = .ok (.ireturn, 1) := by decide +kernel
theorem dX8_init_0 : decode cX8_init 0 = .ok (.aload_n 0, 1) := by decide +kernel
theorem dX8_init_1 : decode cX8_init 1 = .ok (.invokespecial 3, 3) := by decide +kernel
theorem dX8_init_4 : decode cX8_init 4 = .ok (.aload_n 0, 1) := by decide +kernel
theorem dX8_init_5 : decode cX8_init 5 = .ok (.bipush 12, 2) := by decide +kernel
theorem dX8_init_7 : decode cX8_init 7 = .ok (.anewarray 9, 3) := by decide +kernel
theorem dX8_init_10 : decode cX8_init 10 = .ok (.putfield 11, 3) := by decide +kernel
theorem dX8_init_13 : decode cX8_init 13 = .ok (.iconst 0, 1) := by decide +kernel
theorem dX8_init_14 : decode cX8_init 14 = .ok (.istore_n 1, 1) := by decide +kernel
theorem dX8_init_15 : decode cX8_init 15 = .ok (.iload_n 1, 1) := by decide +kernel
theorem dX8_init_16 : decode cX8_init 16 = .ok (.bipush 12, 2) := by decide +kernel
theorem dX8_init_18 : decode cX8_init 18 = .ok (.if_icmp .ge 22, 3) := by decide +kernel
theorem dX8_init_21 : decode cX8_init 21 = .ok (.aload_n 0, 1) := by decide +kernel
theorem dX8_init_22 : decode cX8_init 22 = .ok (.getfield 11, 3) := by decide +kernel
theorem dX8_init_25 : decode cX8_init 25 = .ok (.iload_n 1, 1) := by decide +kernel
theorem dX8_init_26 : decode cX8_init 26 = .ok (.new 9, 3) := by decide +kernel
theorem dX8_init_29 : decode cX8_init 29 = .ok (.dup, 1) := by decide +kernel
theorem dX8_init_30 : decode cX8_init 30 = .ok (.invokespecial 17, 3) := by decide +kernel
theorem dX8_init_33 : decode cX8_init 33 = .ok (.aastore, 1) := by decide +kernel
theorem dX8_init_34 : decode cX8_init 34 = .ok (.iinc 1 1, 3) := by decide +kernel
theorem dX8_init_37 : decode cX8_init 37 = .ok (.goto (-22), 3) := by decide +kernel
theorem dX8_init_40 : decode cX8_init 40 = .ok (.return_, 1) := by decide +kernel
theorem dX8_remember_0 : decode cX8_remember 0 = .ok (.aload_n 0, 1) := by decide +kernel
theorem dX8_remember_1 : decode cX8_remember 1 = .ok (.getfield 11, 3) := by decide +kernel
theorem dX8_remember_4 : decode cX8_remember 4 = .ok (.aload_n 0, 1) := by decide +kernel
theorem dX8_remember_5 : decode cX8_remember 5 = .ok (.getfield 18, 3) := by decide +kernel
theorem dX8_remember_8 : decode cX8_remember 8 = .ok (.aaload, 1) := by decide +kernel
theorem dX8_remember_9 : decode cX8_remember 9 = .ok (.aload_n 1, 1) := by decide +kernel
theorem dX8_remember_10 : decode cX8_remember 10 = .ok (.invokevirtual 22, 3) := by decide +kernel
theorem dX8_remember_13 : decode cX8_remember 13 = .ok (.aload_n 0, 1) := by decide +kernel
