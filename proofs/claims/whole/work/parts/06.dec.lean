theorem dX12_feed_87 : decode cX12_feed 87 = .ok (.bipush 24, 2) := by decide +kernel
theorem dX12_feed_89 : decode cX12_feed 89 = .ok (.bipush 8, 2) := by decide +kernel
theorem dX12_feed_91 : decode cX12_feed 91 = .ok (.iload 6, 2) := by decide +kernel
theorem dX12_feed_93 : decode cX12_feed 93 = .ok (.iconst 4, 1) := by decide +kernel
theorem dX12_feed_94 : decode cX12_feed 94 = .ok (.irem, 1) := by decide +kernel
theorem dX12_feed_95 : decode cX12_feed 95 = .ok (.imul, 1) := by decide +kernel
theorem dX12_feed_96 : decode cX12_feed 96 = .ok (.isub, 1) := by decide +kernel
theorem dX12_feed_97 : decode cX12_feed 97 = .ok (.ishr, 1) := by decide +kernel
theorem dX12_feed_98 : decode cX12_feed 98 = .ok (.i2b, 1) := by decide +kernel
theorem dX12_feed_99 : decode cX12_feed 99 = .ok (.bastore, 1) := by decide +kernel
theorem dX12_feed_100 : decode cX12_feed 100 = .ok (.iinc 6 1, 3) := by decide +kernel
theorem dX12_feed_103 : decode cX12_feed 103 = .ok (.goto (-43), 3) := by decide +kernel
theorem dX12_feed_106 : decode cX12_feed 106 = .ok (.aload_n 0, 1) := by decide +kernel
theorem dX12_feed_107 : decode cX12_feed 107 = .ok (.dup, 1) := by decide +kernel
theorem dX12_feed_108 : decode cX12_feed 108 = .ok (.getfield 83, 3) := by decide +kernel
theorem dX12_feed_111 : decode cX12_feed 111 = .ok (.bipush 20, 2) := by decide +kernel
theorem dX12_feed_113 : decode cX12_feed 113 = .ok (.iadd, 1) := by decide +kernel
theorem dX12_feed_114 : decode cX12_feed 114 = .ok (.putfield 83, 3) := by decide +kernel
theorem dX12_feed_117 : decode cX12_feed 117 = .ok (.aload_n 0, 1) := by decide +kernel
theorem dX12_feed_118 : decode cX12_feed 118 = .ok (.getfield 83, 3) := by decide +kernel
theorem dX12_feed_121 : decode cX12_feed 121 = .ok (.ireturn, 1) := by decide +kernel
theorem dX12_end_0 : decode cX12_end 0 = .ok (.aload_n 0, 1) := by decide +kernel
theorem dX12_end_1 : decode cX12_end 1 = .ok (.iconst 0, 1) := by decide +kernel
theorem dX12_end_2 : decode cX12_end 2 = .ok (.putfield 3, 3) := by decide +kernel
theorem dX12_end_5 : decode cX12_end 5 = .ok (.iload_n 1, 1) := by decide +kernel
theorem dX12_end_6 : decode cX12_end 6 = .ok (.ifCond .lt 11, 3) := by decide +kernel
theorem dX12_end_9 : decode cX12_end 9 = .ok (.iload_n 1, 1) := by decide +kernel
theorem dX12_end_10 : decode cX12_end 10 = .ok (.aload_n 0, 1) := by decide +kernel
theorem dX12_end_11 : decode cX12_end 11 = .ok (.getfield 83, 3) := by decide +kernel
theorem dX12_end_14 : decode cX12_end 14 = .ok (.if_icmp .le 5, 3) := by decide +kernel
theorem dX12_end_17 : decode cX12_end 17 = .ok (.iconst 0, 1) := by decide +kernel
theorem dX12_end_18 : decode cX12_end 18 = .ok (.ireturn, 1) := by decide +kernel
theorem dX12_end_19 : decode cX12_end 19 = .ok (.aload_n 0, 1) := by decide +kernel
theorem dX12_end_20 : decode cX12_end 20 = .ok (.iload_n 1, 1) := by decide +kernel
theorem dX12_end_21 : decode cX12_end 21 = .ok (.putfield 83, 3) := by decide +kernel
theorem dX12_end_24 : decode cX12_end 24 = .ok (.iconst 1, 1) := by decide +kernel
theorem dX12_end_25 : decode cX12_end 25 = .ok (.ireturn, 1) := by decide +kernel
theorem dX12_isAt_0 : decode cX12_isAt 0 = .ok (.aload_n 0, 1) := by decide +kernel
theorem dX12_isAt_1 : decode cX12_isAt 1 = .ok (.getfield 86, 3) := by decide +kernel
theorem dX12_isAt_4 : decode cX12_isAt 4 = .ok (.aload_n 0, 1) := by decide +kernel
theorem dX12_isAt_5 : decode cX12_isAt 5 = .ok (.getfield 89, 3) := by decide +kernel
theorem dX12_isAt_8 : decode cX12_isAt 8 = .ok (.if_icmp .ge 33, 3) := by decide +kernel
theorem dX12_isAt_11 : decode cX12_isAt 11 = .ok (.aload_n 0, 1) := by decide +kernel
theorem dX12_isAt_12 : decode cX12_isAt 12 = .ok (.getfield 29, 3) := by decide +kernel
theorem dX12_isAt_15 : decode cX12_isAt 15 = .ok (.aload_n 0, 1) := by decide +kernel
theorem dX12_isAt_16 : decode cX12_isAt 16 = .ok (.getfield 86, 3) := by decide +kernel
theorem dX12_isAt_19 : decode cX12_isAt 19 = .ok (.baload, 1) := by decide +kernel
theorem dX12_isAt_20 : decode cX12_isAt 20 = .ok (.iload_n 1, 1) := by decide +kernel
theorem dX12_isAt_21 : decode cX12_isAt 21 = .ok (.if_icmp .lt 20, 3) := by decide +kernel
theorem dX12_isAt_24 : decode cX12_isAt 24 = .ok (.aload_n 0, 1) := by decide +kernel
theorem dX12_isAt_25 : decode cX12_isAt 25 = .ok (.getfield 29, 3) := by decide +kernel
theorem dX12_isAt_28 : decode cX12_isAt 28 = .ok (.aload_n 0, 1) := by decide +kernel
theorem dX12_isAt_29 : decode cX12_isAt 29 = .ok (.getfield 86, 3) := by decide +kernel
theorem dX12_isAt_32 : decode cX12_isAt 32 = .ok (.baload, 1) := by decide +kernel
theorem dX12_isAt_33 : decode cX12_isAt 33 = .ok (.iload_n 2, 1) := by decide +kernel
theorem dX12_isAt_34 : decode cX12_isAt 34 = .ok (.if_icmp .gt 7, 3) := by decide +kernel
theorem dX12_isAt_37 : decode cX12_isAt 37 = .ok (.iconst 1, 1) := by decide +kernel
theorem dX12_isAt_38 : decode cX12_isAt 38 = .ok (.goto 4, 3) := by decide +kernel
theorem dX12_isAt_41 : decode cX12_isAt 41 = .ok (.iconst 0, 1) := by decide +kernel
theorem dX12_isAt_42 : decode cX12_isAt 42 = .ok (.ireturn, 1) := by decide +kernel
theorem dX12_blanks_0 : decode cX12_blanks 0 = .ok (.aload_n 0, 1) := by decide +kernel
theorem dX12_blanks_1 : decode cX12_blanks 1 = .ok (.bipush 32, 2) := by decide +kernel
theorem dX12_blanks_3 : decode cX12_blanks 3 = .ok (.bipush 32, 2) := by decide +kernel
theorem dX12_blanks_5 : decode cX12_blanks 5 = .ok (.invokevirtual 92, 3) := by decide +kernel
theorem dX12_blanks_8 : decode cX12_blanks 8 = .ok (.ifCond .eq 16, 3) := by decide +kernel
theorem dX12_blanks_11 : decode cX12_blanks 11 = .ok (.aload_n 0, 1) := by decide +kernel
theorem dX12_blanks_12 : decode cX12_blanks 12 = .ok (.dup, 1) := by decide +kernel
theorem dX12_blanks_13 : decode cX12_blanks 13 = .ok (.getfield 86, 3) := by decide +kernel
theorem dX12_blanks_16 : decode cX12_blanks 16 = .ok (.iconst 1, 1) := by decide +kernel
theorem dX12_blanks_17 : decode cX12_blanks 17 = .ok (.iadd, 1) := by decide +kernel
theorem dX12_blanks_18 : decode cX12_blanks 18 = .ok (.putfield 86, 3) := by decide +kernel
theorem dX12_blanks_21 : decode cX12_blanks 21 = .ok (.goto (-21), 3) := by decide +kernel
theorem dX12_blanks_24 : decode cX12_blanks 24 = .ok (.aload_n 0, 1) := by decide +kernel
theorem dX12_blanks_25 : decode cX12_blanks 25 = .ok (.aload_n 0, 1) := by decide +kernel
theorem dX12_blanks_26 : decode cX12_blanks 26 = .ok (.getfield 86, 3) := by decide +kernel
theorem dX12_blanks_29 : decode cX12_blanks 29 = .ok (.putfield 96, 3) := by decide +kernel
theorem dX12_blanks_32 : decode cX12_blanks 32 = .ok (.return_, 1) := by decide +kernel
theorem dX12_letters_0 : decode cX12_letters 0 = .ok (.aload_n 0, 1) := by decide +kernel
theorem dX12_letters_1 : decode cX12_letters 1 = .ok (.invokevirtual 99, 3) := by decide +kernel
theorem dX12_letters_4 : decode cX12_letters 4 = .ok (.aload_n 0, 1) := by decide +kernel
theorem dX12_letters_5 : decode cX12_letters 5 = .ok (.bipush 97, 2) := by decide +kernel
theorem dX12_letters_7 : decode cX12_letters 7 = .ok (.bipush 122, 2) := by decide +kernel
theorem dX12_letters_9 : decode cX12_letters 9 = .ok (.invokevirtual 92, 3) := by decide +kernel
theorem dX12_letters_12 : decode cX12_letters 12 = .ok (.ifCond .eq 16, 3) := by decide +kernel
theorem dX12_letters_15 : decode cX12_letters 15 = .ok (.aload_n 0, 1) := by decide +kernel
theorem dX12_letters_16 : decode cX12_letters 16 = .ok (.dup, 1) := by decide +kernel
theorem dX12_letters_17 : decode cX12_letters 17 = .ok (.getfield 86, 3) := by decide +kernel
theorem dX12_letters_20 : decode cX12_letters 20 = .ok (.iconst 1, 1) := by decide +kernel
theorem dX12_letters_21 : decode cX12_letters 21 = .ok (.iadd, 1) := by decide +kernel
theorem dX12_letters_22 : decode cX12_letters 22 = .ok (.putfield 86, 3) := by decide +kernel
theorem dX12_letters_25 : decode cX12_letters 25 = .ok (.goto (-21), 3) := by decide +kernel
theorem dX12_letters_28 : decode cX12_letters 28 = .ok (.return_, 1) := by decide +kernel
theorem dX12_isWord_0 : decode cX12_isWord 0 = .ok (.aload_n 0, 1) := by decide +kernel
theorem dX12_isWord_1 : decode cX12_isWord 1 = .ok (.getfield 86, 3) := by decide +kernel
theorem dX12_isWord_4 : decode cX12_isWord 4 = .ok (.aload_n 0, 1) := by decide +kernel
theorem dX12_isWord_5 : decode cX12_isWord 5 = .ok (.getfield 96, 3) := by decide +kernel
theorem dX12_isWord_8 : decode cX12_isWord 8 = .ok (.isub, 1) := by decide +kernel
theorem dX12_isWord_9 : decode cX12_isWord 9 = .ok (.aload_n 1, 1) := by decide +kernel
theorem dX12_isWord_10 : decode cX12_isWord 10 = .ok (.invokevirtual 102, 3) := by decide +kernel
theorem dX12_isWord_13 : decode cX12_isWord 13 = .ok (.if_icmp .ne 7, 3) := by decide +kernel
theorem dX12_isWord_16 : decode cX12_isWord 16 = .ok (.iconst 1, 1) := by decide +kernel
theorem dX12_isWord_17 : decode cX12_isWord 17 = .ok (.goto 4, 3) := by decide +kernel
theorem dX12_isWord_20 : decode cX12_isWord 20 = .ok (.iconst 0, 1) := by decide +kernel
theorem dX12_isWord_21 : decode cX12_isWord 21 = .ok (.istore_n 2, 1) := by decide +kernel
theorem dX12_isWord_22 : decode cX12_isWord 22 = .ok (.iconst 0, 1) := by decide +kernel
theorem dX12_isWord_23 : decode cX12_isWord 23 = .ok (.istore_n 3, 1) := by decide +kernel
theorem dX12_isWord_24 : decode cX12_isWord 24 = .ok (.iload_n 2, 1) := by decide +kernel
theorem dX12_isWord_25 : decode cX12_isWord 25 = .ok (.ifCond .eq 42, 3) := by decide +kernel
theorem dX12_isWord_28 : decode cX12_isWord 28 = .ok (.iload_n 3, 1) := by decide +kernel
theorem dX12_isWord_29 : decode cX12_isWord 29 = .ok (.aload_n 1, 1) := by decide +kernel
theorem dX12_isWord_30 : decode cX12_isWord 30 = .ok (.invokevirtual 102, 3) := by decide +kernel
theorem dX12_isWord_33 : decode cX12_isWord 33 = .ok (.if_icmp .ge 34, 3) := by decide +kernel
theorem dX12_isWord_36 : decode cX12_isWord 36 = .ok (.aload_n 0, 1) := by decide +kernel
theorem dX12_isWord_37 : decode cX12_isWord 37 = .ok (.getfield 29, 3) := by decide +kernel
theorem dX12_isWord_40 : decode cX12_isWord 40 = .ok (.aload_n 0, 1) := by decide +kernel
theorem dX12_isWord_41 : decode cX12_isWord 41 = .ok (.getfield 96, 3) := by decide +kernel
theorem dX12_isWord_44 : decode cX12_isWord 44 = .ok (.iload_n 3, 1) := by decide +kernel
theorem dX12_isWord_45 : decode cX12_isWord 45 = .ok (.iadd, 1) := by decide +kernel
theorem dX12_isWord_46 : decode cX12_isWord 46 = .ok (.baload, 1) := by decide +kernel
theorem dX12_isWord_47 : decode cX12_isWord 47 = .ok (.aload_n 1, 1) := by decide +kernel
theorem dX12_isWord_48 : decode cX12_isWord 48 = .ok (.iload_n 3, 1) := by decide +kernel
theorem dX12_isWord_49 : decode cX12_isWord 49 = .ok (.invokevirtual 107, 3) := by decide +kernel
theorem dX12_isWord_52 : decode cX12_isWord 52 = .ok (.if_icmp .ne 7, 3) := by decide +kernel
theorem dX12_isWord_55 : decode cX12_isWord 55 = .ok (.iconst 1, 1) := by decide +kernel
theorem dX12_isWord_56 : decode cX12_isWord 56 = .ok (.goto 4, 3) := by decide +kernel
theorem dX12_isWord_59 : decode cX12_isWord 59 = .ok (.iconst 0, 1) := by decide +kernel
theorem dX12_isWord_60 : decode cX12_isWord 60 = .ok (.istore_n 2, 1) := by decide +kernel
theorem dX12_isWord_61 : decode cX12_isWord 61 = .ok (.iinc 3 1, 3) := by decide +kernel
theorem dX12_isWord_64 : decode cX12_isWord 64 = .ok (.goto (-40), 3) := by decide +kernel
theorem dX12_isWord_67 : decode cX12_isWord 67 = .ok (.iload_n 2, 1) := by decide +kernel
theorem dX12_isWord_68 : decode cX12_isWord 68 = .ok (.ireturn, 1) := by decide +kernel
theorem dX12_passes_0 : decode cX12_passes 0 = .ok (.aload_n 0, 1) := by decide +kernel
theorem dX12_passes_1 : decode cX12_passes 1 = .ok (.invokevirtual 111, 3) := by decide +kernel
theorem dX12_passes_4 : decode cX12_passes 4 = .ok (.aload_n 0, 1) := by decide +kernel
theorem dX12_passes_5 : decode cX12_passes 5 = .ok (.aload_n 1, 1) := by decide +kernel
theorem dX12_passes_6 : decode cX12_passes 6 = .ok (.invokevirtual 114, 3) := by decide +kernel
theorem dX12_passes_9 : decode cX12_passes 9 = .ok (.ifCond .eq 5, 3) := by decide +kernel
theorem dX12_passes_12 : decode cX12_passes 12 = .ok (.iconst 1, 1) := by decide +kernel
theorem dX12_passes_13 : decode cX12_passes 13 = .ok (.ireturn, 1) := by decide +kernel
theorem dX12_passes_14 : decode cX12_passes 14 = .ok (.aload_n 0, 1) := by decide +kernel
theorem dX12_passes_15 : decode cX12_passes 15 = .ok (.aload_n 0, 1) := by decide +kernel
theorem dX12_passes_16 : decode cX12_passes 16 = .ok (.getfield 96, 3) := by decide +kernel
theorem dX12_passes_19 : decode cX12_passes 19 = .ok (.putfield 86, 3) := by decide +kernel
theorem dX12_passes_22 : decode cX12_passes 22 = .ok (.iconst 0, 1) := by decide +kernel
theorem dX12_passes_23 : decode cX12_passes 23 = .ok (.ireturn, 1) := by decide +kernel
theorem dX12_sign_0 : decode cX12_sign 0 = .ok (.aload_n 0, 1) := by decide +kernel
theorem dX12_sign_1 : decode cX12_sign 1 = .ok (.invokevirtual 99, 3) := by decide +kernel
theorem dX12_sign_4 : decode cX12_sign 4 = .ok (.aload_n 0, 1) := by decide +kernel
theorem dX12_sign_5 : decode cX12_sign 5 = .ok (.iload_n 1, 1) := by decide +kernel
theorem dX12_sign_6 : decode cX12_sign 6 = .ok (.iload_n 1, 1) := by decide +kernel
theorem dX12_sign_7 : decode cX12_sign 7 = .ok (.invokevirtual 92, 3) := by decide +kernel
theorem dX12_sign_10 : decode cX12_sign 10 = .ok (.ifCond .ne 5, 3) := by decide +kernel
theorem dX12_sign_13 : decode cX12_sign 13 = .ok (.iconst 0, 1) := by decide +kernel
theorem dX12_sign_14 : decode cX12_sign 14 = .ok (.ireturn, 1) := by decide +kernel
theorem dX12_sign_15 : decode cX12_sign 15 = .ok (.aload_n 0, 1) := by decide +kernel
theorem dX12_sign_16 : decode cX12_sign 16 = .ok (.dup, 1) := by decide +kernel
theorem dX12_sign_17 : decode cX12_sign 17 = .ok (.getfield 86, 3) := by decide +kernel
theorem dX12_sign_20 : decode cX12_sign 20 = .ok (.iconst 1, 1) := by decide +kernel
theorem dX12_sign_21 : decode cX12_sign 21 = .ok (.iadd, 1) := by decide +kernel
theorem dX12_sign_22 : decode cX12_sign 22 = .ok (.putfield 86, 3) := by decide +kernel
theorem dX12_sign_25 : decode cX12_sign 25 = .ok (.iconst 1, 1) := by decide +kernel
theorem dX12_sign_26 : decode cX12_sign 26 = .ok (.ireturn, 1) := by decide +kernel
theorem dX12_figures_0 : decode cX12_figures 0 = .ok (.aload_n 0, 1) := by decide +kernel
theorem dX12_figures_1 : decode cX12_figures 1 = .ok (.invokevirtual 99, 3) := by decide +kernel
theorem dX12_figures_4 : decode cX12_figures 4 = .ok (.iconst 0, 1) := by decide +kernel
theorem dX12_figures_5 : decode cX12_figures 5 = .ok (.istore 4, 2) := by decide +kernel
theorem dX12_figures_7 : decode cX12_figures 7 = .ok (.aload_n 0, 1) := by decide +kernel
theorem dX12_figures_8 : decode cX12_figures 8 = .ok (.bipush 48, 2) := by decide +kernel
theorem dX12_figures_10 : decode cX12_figures 10 = .ok (.bipush 57, 2) := by decide +kernel
theorem dX12_figures_12 : decode cX12_figures 12 = .ok (.invokevirtual 92, 3) := by decide +kernel
theorem dX12_figures_15 : decode cX12_figures 15 = .ok (.ifCond .eq 54, 3) := by decide +kernel
theorem dX12_figures_18 : decode cX12_figures 18 = .ok (.aload_n 0, 1) := by decide +kernel
theorem dX12_figures_19 : decode cX12_figures 19 = .ok (.getfield 86, 3) := by decide +kernel
theorem dX12_figures_22 : decode cX12_figures 22 = .ok (.aload_n 0, 1) := by decide +kernel
theorem dX12_figures_23 : decode cX12_figures 23 = .ok (.getfield 96, 3) := by decide +kernel
theorem dX12_figures_26 : decode cX12_figures 26 = .ok (.isub, 1) := by decide +kernel
theorem dX12_figures_27 : decode cX12_figures 27 = .ok (.iload_n 3, 1) := by decide +kernel
theorem dX12_figures_28 : decode cX12_figures 28 = .ok (.if_icmp .ge 24, 3) := by decide +kernel
theorem dX12_figures_31 : decode cX12_figures 31 = .ok (.bipush 10, 2) := by decide +kernel
theorem dX12_figures_33 : decode cX12_figures 33 = .ok (.iload 4, 2) := by decide +kernel
theorem dX12_figures_35 : decode cX12_figures 35 = .ok (.imul, 1) := by decide +kernel
theorem dX12_figures_36 : decode cX12_figures 36 = .ok (.aload_n 0, 1) := by decide +kernel
theorem dX12_figures_37 : decode cX12_figures 37 = .ok (.getfield 29, 3) := by decide +kernel
theorem dX12_figures_40 : decode cX12_figures 40 = .ok (.aload_n 0, 1) := by decide +kernel
theorem dX12_figures_41 : decode cX12_figures 41 = .ok (.getfield 86, 3) := by decide +kernel
theorem dX12_figures_44 : decode cX12_figures 44 = .ok (.baload, 1) := by decide +kernel
theorem dX12_figures_45 : decode cX12_figures 45 = .ok (.iadd, 1) := by decide +kernel
theorem dX12_figures_46 : decode cX12_figures 46 = .ok (.bipush 48, 2) := by decide +kernel
theorem dX12_figures_48 : decode cX12_figures 48 = .ok (.isub, 1) := by decide +kernel
theorem dX12_figures_49 : decode cX12_figures 49 = .ok (.goto 5, 3) := by decide +kernel
theorem dX12_figures_52 : decode cX12_figures 52 = .ok (.iload 4, 2) := by decide +kernel
theorem dX12_figures_54 : decode cX12_figures 54 = .ok (.istore 4, 2) := by decide +kernel
theorem dX12_figures_56 : decode cX12_figures 56 = .ok (.aload_n 0, 1) := by decide +kernel
theorem dX12_figures_57 : decode cX12_figures 57 = .ok (.dup, 1) := by decide +kernel
theorem dX12_figures_58 : decode cX12_figures 58 = .ok (.getfield 86, 3) := by decide +kernel
theorem dX12_figures_61 : decode cX12_figures 61 = .ok (.iconst 1, 1) := by decide +kernel
theorem dX12_figures_62 : decode cX12_figures 62 = .ok (.iadd, 1) := by decide +kernel
theorem dX12_figures_63 : decode cX12_figures 63 = .ok (.putfield 86, 3) := by decide +kernel
theorem dX12_figures_66 : decode cX12_figures 66 = .ok (.goto (-59), 3) := by decide +kernel
theorem dX12_figures_69 : decode cX12_figures 69 = .ok (.aload_n 0, 1) := by decide +kernel
theorem dX12_figures_70 : decode cX12_figures 70 = .ok (.getfield 86, 3) := by decide +kernel
theorem dX12_figures_73 : decode cX12_figures 73 = .ok (.aload_n 0, 1) := by decide +kernel
theorem dX12_figures_74 : decode cX12_figures 74 = .ok (.getfield 96, 3) := by decide +kernel
theorem dX12_figures_77 : decode cX12_figures 77 = .ok (.if_icmp .eq 28, 3) := by decide +kernel
theorem dX12_figures_80 : decode cX12_figures 80 = .ok (.aload_n 0, 1) := by decide +kernel
theorem dX12_figures_81 : decode cX12_figures 81 = .ok (.getfield 86, 3) := by decide +kernel
theorem dX12_figures_84 : decode cX12_figures 84 = .ok (.aload_n 0, 1) := by decide +kernel
theorem dX12_figures_85 : decode cX12_figures 85 = .ok (.getfield 96, 3) := by decide +kernel
theorem dX12_figures_88 : decode cX12_figures 88 = .ok (.isub, 1) := by decide +kernel
theorem dX12_figures_89 : decode cX12_figures 89 = .ok (.iload_n 3, 1) := by decide +kernel
theorem dX12_figures_90 : decode cX12_figures 90 = .ok (.if_icmp .gt 15, 3) := by decide +kernel
theorem dX12_figures_93 : decode cX12_figures 93 = .ok (.iload 4, 2) := by decide +kernel
theorem dX12_figures_95 : decode cX12_figures 95 = .ok (.iload_n 1, 1) := by decide +kernel
theorem dX12_figures_96 : decode cX12_figures 96 = .ok (.if_icmp .lt 9, 3) := by decide +kernel
theorem dX12_figures_99 : decode cX12_figures 99 = .ok (.iload 4, 2) := by decide +kernel
theorem dX12_figures_101 : decode cX12_figures 101 = .ok (.iload_n 2, 1) := by decide +kernel
theorem dX12_figures_102 : decode cX12_figures 102 = .ok (.if_icmp .le 7, 3) := by decide +kernel
theorem dX12_figures_105 : decode cX12_figures 105 = .ok (.iconst (-1), 1) := by decide +kernel
theorem dX12_figures_106 : decode cX12_figures 106 = .ok (.goto 5, 3) := by decide +kernel
theorem dX12_figures_109 : decode cX12_figures 109 = .ok (.iload 4, 2) := by decide +kernel
theorem dX12_figures_111 : decode cX12_figures 111 = .ok (.ireturn, 1) := by decide +kernel
theorem dX12_number_0 : decode cX12_number 0 = .ok (.aload_n 0, 1) := by decide +kernel
theorem dX12_number_1 : decode cX12_number 1 = .ok (.iload_n 1, 1) := by decide +kernel
theorem dX12_number_2 : decode cX12_number 2 = .ok (.iload_n 2, 1) := by decide +kernel
theorem dX12_number_3 : decode cX12_number 3 = .ok (.iconst 5, 1) := by decide +kernel
theorem dX12_number_4 : decode cX12_number 4 = .ok (.invokevirtual 118, 3) := by decide +kernel
theorem dX12_number_7 : decode cX12_number 7 = .ok (.ireturn, 1) := by decide +kernel
theorem dX12_after_0 : decode cX12_after 0 = .ok (.aload_n 0, 1) := by decide +kernel
theorem dX12_after_1 : decode cX12_after 1 = .ok (.invokevirtual 111, 3) := by decide +kernel
theorem dX12_after_4 : decode cX12_after 4 = .ok (.aload_n 0, 1) := by decide +kernel
theorem dX12_after_5 : decode cX12_after 5 = .ok (.aload_n 1, 1) := by decide +kernel
theorem dX12_after_6 : decode cX12_after 6 = .ok (.invokevirtual 114, 3) := by decide +kernel
theorem dX12_after_9 : decode cX12_after 9 = .ok (.ifCond .eq 12, 3) := by decide +kernel
theorem dX12_after_12 : decode cX12_after 12 = .ok (.aload_n 0, 1) := by decide +kernel
theorem dX12_after_13 : decode cX12_after 13 = .ok (.iload_n 2, 1) := by decide +kernel
theorem dX12_after_14 : decode cX12_after 14 = .ok (.iload_n 3, 1) := by decide +kernel
theorem dX12_after_15 : decode cX12_after 15 = .ok (.invokevirtual 122, 3) := by decide +kernel
theorem dX12_after_18 : decode cX12_after 18 = .ok (.goto 4, 3) := by decide +kernel
theorem dX12_after_21 : decode cX12_after 21 = .ok (.iconst (-1), 1) := by decide +kernel
theorem dX12_after_22 : decode cX12_after 22 = .ok (.ireturn, 1) := by decide +kernel
theorem dX12_fault_0 : decode cX12_fault 0 = .ok (.aload_n 0, 1) := by decide +kernel
theorem dX12_fault_1 : decode cX12_fault 1 = .ok (.iconst 0, 1) := by decide +kernel
theorem dX12_fault_2 : decode cX12_fault 2 = .ok (.putfield 3, 3) := by decide +kernel
theorem dX12_fault_5 : decode cX12_fault 5 = .ok (.aload_n 0, 1) := by decide +kernel
theorem dX12_fault_6 : decode cX12_fault 6 = .ok (.getfield 33, 3) := by decide +kernel
theorem dX12_fault_9 : decode cX12_fault 9 = .ok (.ireturn, 1) := by decide +kernel
theorem dX12_uses_0 : decode cX12_uses 0 = .ok (.aload_n 0, 1) := by decide +kernel
theorem dX12_uses_1 : decode cX12_uses 1 = .ok (.iconst 0, 1) := by decide +kernel
theorem dX12_uses_2 : decode cX12_uses 2 = .ok (.putfield 3, 3) := by decide +kernel
theorem dX12_uses_5 : decode cX12_uses 5 = .ok (.aload_n 0, 1) := by decide +kernel
theorem dX12_uses_6 : decode cX12_uses 6 = .ok (.aload_n 0, 1) := by decide +kernel
theorem dX12_uses_7 : decode cX12_uses 7 = .ok (.getfield 83, 3) := by decide +kernel
theorem dX12_uses_10 : decode cX12_uses 10 = .ok (.putfield 89, 3) := by decide +kernel
theorem dX12_uses_13 : decode cX12_uses 13 = .ok (.aload_n 0, 1) := by decide +kernel
theorem dX12_uses_14 : decode cX12_uses 14 = .ok (.iconst 0, 1) := by decide +kernel
theorem dX12_uses_15 : decode cX12_uses 15 = .ok (.putfield 83, 3) := by decide +kernel
theorem dX12_uses_18 : decode cX12_uses 18 = .ok (.aload_n 0, 1) := by decide +kernel
theorem dX12_uses_19 : decode cX12_uses 19 = .ok (.iconst 0, 1) := by decide +kernel
theorem dX12_uses_20 : decode cX12_uses 20 = .ok (.putfield 86, 3) := by decide +kernel
theorem dX12_uses_23 : decode cX12_uses 23 = .ok (.return_, 1) := by decide +kernel
theorem dX12_personTold_0 : decode cX12_personTold 0 = .ok (.aload_n 0, 1) := by decide +kernel
theorem dX12_personTold_1 : decode cX12_personTold 1 = .ok (.iconst 0, 1) := by decide +kernel
theorem dX12_personTold_2 : decode cX12_personTold 2 = .ok (.aload_n 0, 1) := by decide +kernel
theorem dX12_personTold_3 : decode cX12_personTold 3 = .ok (.invokevirtual 74, 3) := by decide +kernel
theorem dX12_personTold_6 : decode cX12_personTold 6 = .ok (.iconst 1, 1) := by decide +kernel
theorem dX12_personTold_7 : decode cX12_personTold 7 = .ok (.isub, 1) := by decide +kernel
theorem dX12_personTold_8 : decode cX12_personTold 8 = .ok (.invokevirtual 122, 3) := by decide +kernel
theorem dX12_personTold_11 : decode cX12_personTold 11 = .ok (.ireturn, 1) := by decide +kernel
theorem dX12_readPains_0 : decode cX12_readPains 0 = .ok (.aload_n 0, 1) := by decide +kernel
theorem dX12_readPains_1 : decode cX12_readPains 1 = .ok (.invokevirtual 99, 3) := by decide +kernel
theorem dX12_readPains_4 : decode cX12_readPains 4 = .ok (.aload_n 0, 1) := by decide +kernel
theorem dX12_readPains_5 : decode cX12_readPains 5 = .ok (.bipush 48, 2) := by decide +kernel
theorem dX12_readPains_7 : decode cX12_readPains 7 = .ok (.bipush 57, 2) := by decide +kernel
theorem dX12_readPains_9 : decode cX12_readPains 9 = .ok (.invokevirtual 92, 3) := by decide +kernel
theorem dX12_readPains_12 : decode cX12_readPains 12 = .ok (.ifCond .eq 63, 3) := by decide +kernel
theorem dX12_readPains_15 : decode cX12_readPains 15 = .ok (.aload_n 0, 1) := by decide +kernel
theorem dX12_readPains_16 : decode cX12_readPains 16 = .ok (.getfield 86, 3) := by decide +kernel
theorem dX12_readPains_19 : decode cX12_readPains 19 = .ok (.aload_n 0, 1) := by decide +kernel
theorem dX12_readPains_20 : decode cX12_readPains 20 = .ok (.getfield 96, 3) := by decide +kernel
theorem dX12_readPains_23 : decode cX12_readPains 23 = .ok (.isub, 1) := by decide +kernel
theorem dX12_readPains_24 : decode cX12_readPains 24 = .ok (.bipush 7, 2) := by decide +kernel
theorem dX12_readPains_26 : decode cX12_readPains 26 = .ok (.if_icmp .ge 36, 3) := by decide +kernel
theorem dX12_readPains_29 : decode cX12_readPains 29 = .ok (.aload_n 0, 1) := by decide +kernel
theorem dX12_readPains_30 : decode cX12_readPains 30 = .ok (.getfield 13, 3) := by decide +kernel
theorem dX12_readPains_33 : decode cX12_readPains 33 = .ok (.iload_n 1, 1) := by decide +kernel
theorem dX12_readPains_34 : decode cX12_readPains 34 = .ok (.bipush 6, 2) := by decide +kernel
theorem dX12_readPains_36 : decode cX12_readPains 36 = .ok (.aload_n 0, 1) := by decide +kernel
theorem dX12_readPains_37 : decode cX12_readPains 37 = .ok (.getfield 86, 3) := by decide +kernel
theorem dX12_readPains_40 : decode cX12_readPains 40 = .ok (.iadd, 1) := by decide +kernel
theorem dX12_readPains_41 : decode cX12_readPains 41 = .ok (.aload_n 0, 1) := by decide +kernel
theorem dX12_readPains_42 : decode cX12_readPains 42 = .ok (.getfield 96, 3) := by decide +kernel
theorem dX12_readPains_45 : decode cX12_readPains 45 = .ok (.isub, 1) := by decide +kernel
theorem dX12_readPains_46 : decode cX12_readPains 46 = .ok (.invokestatic 64, 3) := by decide +kernel
theorem dX12_readPains_49 : decode cX12_readPains 49 = .ok (.aload_n 0, 1) := by decide +kernel
theorem dX12_readPains_50 : decode cX12_readPains 50 = .ok (.getfield 29, 3) := by decide +kernel
theorem dX12_readPains_53 : decode cX12_readPains 53 = .ok (.aload_n 0, 1) := by decide +kernel
theorem dX12_readPains_54 : decode cX12_readPains 54 = .ok (.getfield 86, 3) := by decide +kernel
theorem dX12_readPains_57 : decode cX12_readPains 57 = .ok (.baload, 1) := by decide +kernel
theorem dX12_readPains_58 : decode cX12_readPains 58 = .ok (.bipush 48, 2) := by decide +kernel
theorem dX12_readPains_60 : decode cX12_readPains 60 = .ok (.isub, 1) := by decide +kernel
theorem dX12_readPains_61 : decode cX12_readPains 61 = .ok (.iastore, 1) := by decide +kernel
theorem dX12_readPains_62 : decode cX12_readPains 62 = .ok (.aload_n 0, 1) := by decide +kernel
theorem dX12_readPains_63 : decode cX12_readPains 63 = .ok (.dup, 1) := by decide +kernel
theorem dX12_readPains_64 : decode cX12_readPains 64 = .ok (.getfield 86, 3) := by decide +kernel
theorem dX12_readPains_67 : decode cX12_readPains 67 = .ok (.iconst 1, 1) := by decide +kernel
theorem dX12_readPains_68 : decode cX12_readPains 68 = .ok (.iadd, 1) := by decide +kernel
theorem dX12_readPains_69 : decode cX12_readPains 69 = .ok (.putfield 86, 3) := by decide +kernel
theorem dX12_readPains_72 : decode cX12_readPains 72 = .ok (.goto (-68), 3) := by decide +kernel
theorem dX12_readPains_75 : decode cX12_readPains 75 = .ok (.aload_n 0, 1) := by decide +kernel
theorem dX12_readPains_76 : decode cX12_readPains 76 = .ok (.getfield 86, 3) := by decide +kernel
theorem dX12_readPains_79 : decode cX12_readPains 79 = .ok (.aload_n 0, 1) := by decide +kernel
theorem dX12_readPains_80 : decode cX12_readPains 80 = .ok (.getfield 96, 3) := by decide +kernel
theorem dX12_readPains_83 : decode cX12_readPains 83 = .ok (.isub, 1) := by decide +kernel
theorem dX12_readPains_84 : decode cX12_readPains 84 = .ok (.bipush 7, 2) := by decide +kernel
theorem dX12_readPains_86 : decode cX12_readPains 86 = .ok (.if_icmp .ne 7, 3) := by decide +kernel
theorem dX12_readPains_89 : decode cX12_readPains 89 = .ok (.iconst 1, 1) := by decide +kernel
theorem dX12_readPains_90 : decode cX12_readPains 90 = .ok (.goto 4, 3) := by decide +kernel
theorem dX12_readPains_93 : decode cX12_readPains 93 = .ok (.iconst 0, 1) := by decide +kernel
theorem dX12_readPains_94 : decode cX12_readPains 94 = .ok (.ireturn, 1) := by decide +kernel
theorem dX12_readPerson_0 : decode cX12_readPerson 0 = .ok (.aload_n 0, 1) := by decide +kernel
theorem dX12_readPerson_1 : decode cX12_readPerson 1 = .ok (.invokevirtual 74, 3) := by decide +kernel
theorem dX12_readPerson_4 : decode cX12_readPerson 4 = .ok (.istore_n 1, 1) := by decide +kernel
theorem dX12_readPerson_5 : decode cX12_readPerson 5 = .ok (.iload_n 1, 1) := by decide +kernel
theorem dX12_readPerson_6 : decode cX12_readPerson 6 = .ok (.bipush 8, 2) := by decide +kernel
theorem dX12_readPerson_8 : decode cX12_readPerson 8 = .ok (.if_icmp .ne 5, 3) := by decide +kernel
theorem dX12_readPerson_11 : decode cX12_readPerson 11 = .ok (.iconst 0, 1) := by decide +kernel
theorem dX12_readPerson_12 : decode cX12_readPerson 12 = .ok (.ireturn, 1) := by decide +kernel
theorem dX12_readPerson_13 : decode cX12_readPerson 13 = .ok (.aload_n 0, 1) := by decide +kernel
theorem dX12_readPerson_14 : decode cX12_readPerson 14 = .ok (.ldc 125, 2) := by decide +kernel
theorem dX12_readPerson_16 : decode cX12_readPerson 16 = .ok (.iconst 1, 1) := by decide +kernel
theorem dX12_readPerson_17 : decode cX12_readPerson 17 = .ok (.bipush 99, 2) := by decide +kernel
theorem dX12_readPerson_19 : decode cX12_readPerson 19 = .ok (.invokevirtual 127, 3) := by decide +kernel
theorem dX12_readPerson_22 : decode cX12_readPerson 22 = .ok (.istore_n 2, 1) := by decide +kernel
theorem dX12_readPerson_23 : decode cX12_readPerson 23 = .ok (.iload_n 2, 1) := by decide +kernel
theorem dX12_readPerson_24 : decode cX12_readPerson 24 = .ok (.ifCond .ge 5, 3) := by decide +kernel
theorem dX12_readPerson_27 : decode cX12_readPerson 27 = .ok (.iconst 0, 1) := by decide +kernel
theorem dX12_readPerson_28 : decode cX12_readPerson 28 = .ok (.ireturn, 1) := by decide +kernel
theorem dX12_readPerson_29 : decode cX12_readPerson 29 = .ok (.aload_n 0, 1) := by decide +kernel
theorem dX12_readPerson_30 : decode cX12_readPerson 30 = .ok (.invokevirtual 111, 3) := by decide +kernel
theorem dX12_readPerson_33 : decode cX12_readPerson 33 = .ok (.aload_n 0, 1) := by decide +kernel
theorem dX12_readPerson_34 : decode cX12_readPerson 34 = .ok (.ldc 131, 2) := by decide +kernel
theorem dX12_readPerson_36 : decode cX12_readPerson 36 = .ok (.invokevirtual 114, 3) := by decide +kernel
theorem dX12_readPerson_39 : decode cX12_readPerson 39 = .ok (.ifCond .eq 11, 3) := by decide +kernel
theorem dX12_readPerson_42 : decode cX12_readPerson 42 = .ok (.aload_n 0, 1) := by decide +kernel
theorem dX12_readPerson_43 : decode cX12_readPerson 43 = .ok (.iload_n 1, 1) := by decide +kernel
theorem dX12_readPerson_44 : decode cX12_readPerson 44 = .ok (.invokevirtual 133, 3) := by decide +kernel
theorem dX12_readPerson_47 : decode cX12_readPerson 47 = .ok (.ifCond .ne 5, 3) := by decide +kernel
theorem dX12_readPerson_50 : decode cX12_readPerson 50 = .ok (.iconst 0, 1) := by decide +kernel
theorem dX12_readPerson_51 : decode cX12_readPerson 51 = .ok (.ireturn, 1) := by decide +kernel
theorem dX12_readPerson_52 : decode cX12_readPerson 52 = .ok (.aload_n 0, 1) := by decide +kernel
theorem dX12_readPerson_53 : decode cX12_readPerson 53 = .ok (.getfield 13, 3) := by decide +kernel
theorem dX12_readPerson_56 : decode cX12_readPerson 56 = .ok (.iload_n 1, 1) := by decide +kernel
theorem dX12_readPerson_57 : decode cX12_readPerson 57 = .ok (.iconst 0, 1) := by decide +kernel
theorem dX12_readPerson_58 : decode cX12_readPerson 58 = .ok (.invokestatic 64, 3) := by decide +kernel
theorem dX12_readPerson_61 : decode cX12_readPerson 61 = .ok (.iload_n 2, 1) := by decide +kernel
theorem dX12_readPerson_62 : decode cX12_readPerson 62 = .ok (.iastore, 1) := by decide +kernel
theorem dX12_readPerson_63 : decode cX12_readPerson 63 = .ok (.aload_n 0, 1) := by decide +kernel
theorem dX12_readPerson_64 : decode cX12_readPerson 64 = .ok (.getfield 13, 3) := by decide +kernel
theorem dX12_readPerson_67 : decode cX12_readPerson 67 = .ok (.iload_n 1, 1) := by decide +kernel
theorem dX12_readPerson_68 : decode cX12_readPerson 68 = .ok (.iconst 1, 1) := by decide +kernel
theorem dX12_readPerson_69 : decode cX12_readPerson 69 = .ok (.invokestatic 64, 3) := by decide +kernel
theorem dX12_readPerson_72 : decode cX12_readPerson 72 = .ok (.iconst 0, 1) := by decide +kernel
theorem dX12_readPerson_73 : decode cX12_readPerson 73 = .ok (.iastore, 1) := by decide +kernel
theorem dX12_readPerson_74 : decode cX12_readPerson 74 = .ok (.aload_n 0, 1) := by decide +kernel
theorem dX12_readPerson_75 : decode cX12_readPerson 75 = .ok (.getfield 13, 3) := by decide +kernel
theorem dX12_readPerson_78 : decode cX12_readPerson 78 = .ok (.iload_n 1, 1) := by decide +kernel
theorem dX12_readPerson_79 : decode cX12_readPerson 79 = .ok (.iconst 2, 1) := by decide +kernel
theorem dX12_readPerson_80 : decode cX12_readPerson 80 = .ok (.invokestatic 64, 3) := by decide +kernel
theorem dX12_readPerson_83 : decode cX12_readPerson 83 = .ok (.iconst 0, 1) := by decide +kernel
theorem dX12_readPerson_84 : decode cX12_readPerson 84 = .ok (.iastore, 1) := by decide +kernel
theorem dX12_readPerson_85 : decode cX12_readPerson 85 = .ok (.aload_n 0, 1) := by decide +kernel
theorem dX12_readPerson_86 : decode cX12_readPerson 86 = .ok (.getfield 13, 3) := by decide +kernel
theorem dX12_readPerson_89 : decode cX12_readPerson 89 = .ok (.iload_n 1, 1) := by decide +kernel
theorem dX12_readPerson_90 : decode cX12_readPerson 90 = .ok (.iconst 3, 1) := by decide +kernel
theorem dX12_readPerson_91 : decode cX12_readPerson 91 = .ok (.invokestatic 64, 3) := by decide +kernel
theorem dX12_readPerson_94 : decode cX12_readPerson 94 = .ok (.iconst 0, 1) := by decide +kernel
theorem dX12_readPerson_95 : decode cX12_readPerson 95 = .ok (.iastore, 1) := by decide +kernel
theorem dX12_readPerson_96 : decode cX12_readPerson 96 = .ok (.aload_n 0, 1) := by decide +kernel
theorem dX12_readPerson_97 : decode cX12_readPerson 97 = .ok (.getfield 13, 3) := by decide +kernel
theorem dX12_readPerson_100 : decode cX12_readPerson 100 = .ok (.iload_n 1, 1) := by decide +kernel
theorem dX12_readPerson_101 : decode cX12_readPerson 101 = .ok (.iconst 4, 1) := by decide +kernel
theorem dX12_readPerson_102 : decode cX12_readPerson 102 = .ok (.invokestatic 64, 3) := by decide +kernel
theorem dX12_readPerson_105 : decode cX12_readPerson 105 = .ok (.iconst (-1), 1) := by decide +kernel
theorem dX12_readPerson_106 : decode cX12_readPerson 106 = .ok (.iastore, 1) := by decide +kernel
theorem dX12_readPerson_107 : decode cX12_readPerson 107 = .ok (.aload_n 0, 1) := by decide +kernel
theorem dX12_readPerson_108 : decode cX12_readPerson 108 = .ok (.getfield 13, 3) := by decide +kernel
theorem dX12_readPerson_111 : decode cX12_readPerson 111 = .ok (.iload_n 1, 1) := by decide +kernel
theorem dX12_readPerson_112 : decode cX12_readPerson 112 = .ok (.iconst 5, 1) := by decide +kernel
theorem dX12_readPerson_113 : decode cX12_readPerson 113 = .ok (.invokestatic 64, 3) := by decide +kernel
theorem dX12_readPerson_116 : decode cX12_readPerson 116 = .ok (.iconst 0, 1) := by decide +kernel
theorem dX12_readPerson_117 : decode cX12_readPerson 117 = .ok (.iastore, 1) := by decide +kernel
theorem dX12_readPerson_118 : decode cX12_readPerson 118 = .ok (.iconst 0, 1) := by decide +kernel
theorem dX12_readPerson_119 : decode cX12_readPerson 119 = .ok (.istore_n 3, 1) := by decide +kernel
theorem dX12_readPerson_120 : decode cX12_readPerson 120 = .ok (.iload_n 3, 1) := by decide +kernel
theorem dX12_readPerson_121 : decode cX12_readPerson 121 = .ok (.bipush 8, 2) := by decide +kernel
theorem dX12_readPerson_123 : decode cX12_readPerson 123 = .ok (.if_icmp .ge 31, 3) := by decide +kernel
theorem dX12_readPerson_126 : decode cX12_readPerson 126 = .ok (.aload_n 0, 1) := by decide +kernel
theorem dX12_readPerson_127 : decode cX12_readPerson 127 = .ok (.getfield 13, 3) := by decide +kernel
theorem dX12_readPerson_130 : decode cX12_readPerson 130 = .ok (.iload_n 1, 1) := by decide +kernel
theorem dX12_readPerson_131 : decode cX12_readPerson 131 = .ok (.iload_n 3, 1) := by decide +kernel
theorem dX12_readPerson_132 : decode cX12_readPerson 132 = .ok (.invokestatic 71, 3) := by decide +kernel
theorem dX12_readPerson_135 : decode cX12_readPerson 135 = .ok (.iconst 0, 1) := by decide +kernel
theorem dX12_readPerson_136 : decode cX12_readPerson 136 = .ok (.iastore, 1) := by decide +kernel
theorem dX12_readPerson_137 : decode cX12_readPerson 137 = .ok (.aload_n 0, 1) := by decide +kernel
theorem dX12_readPerson_138 : decode cX12_readPerson 138 = .ok (.getfield 13, 3) := by decide +kernel
theorem dX12_readPerson_141 : decode cX12_readPerson 141 = .ok (.iload_n 3, 1) := by decide +kernel
theorem dX12_readPerson_142 : decode cX12_readPerson 142 = .ok (.iload_n 1, 1) := by decide +kernel
theorem dX12_readPerson_143 : decode cX12_readPerson 143 = .ok (.invokestatic 71, 3) := by decide +kernel
theorem dX12_readPerson_146 : decode cX12_readPerson 146 = .ok (.iconst 0, 1) := by decide +kernel
theorem dX12_readPerson_147 : decode cX12_readPerson 147 = .ok (.iastore, 1) := by decide +kernel
theorem dX12_readPerson_148 : decode cX12_readPerson 148 = .ok (.iinc 3 1, 3) := by decide +kernel
theorem dX12_readPerson_151 : decode cX12_readPerson 151 = .ok (.goto (-31), 3) := by decide +kernel
theorem dX12_readPerson_154 : decode cX12_readPerson 154 = .ok (.aload_n 0, 1) := by decide +kernel
theorem dX12_readPerson_155 : decode cX12_readPerson 155 = .ok (.getfield 13, 3) := by decide +kernel
theorem dX12_readPerson_158 : decode cX12_readPerson 158 = .ok (.iconst 0, 1) := by decide +kernel
theorem dX12_readPerson_159 : decode cX12_readPerson 159 = .ok (.dup2, 1) := by decide +kernel
theorem dX12_readPerson_160 : decode cX12_readPerson 160 = .ok (.iaload, 1) := by decide +kernel
theorem dX12_readPerson_161 : decode cX12_readPerson 161 = .ok (.iconst 1, 1) := by decide +kernel
theorem dX12_readPerson_162 : decode cX12_readPerson 162 = .ok (.iadd, 1) := by decide +kernel
theorem dX12_readPerson_163 : decode cX12_readPerson 163 = .ok (.iastore, 1) := by decide +kernel
theorem dX12_readPerson_164 : decode cX12_readPerson 164 = .ok (.iconst 1, 1) := by decide +kernel
theorem dX12_readPerson_165 : decode cX12_readPerson 165 = .ok (.ireturn, 1) := by decide +kernel
theorem dX12_readAccount_0 : decode cX12_readAccount 0 = .ok (.aload_n 0, 1) := by decide +kernel
theorem dX12_readAccount_1 : decode cX12_readAccount 1 = .ok (.invokevirtual 137, 3) := by decide +kernel
theorem dX12_readAccount_4 : decode cX12_readAccount 4 = .ok (.istore_n 1, 1) := by decide +kernel
theorem dX12_readAccount_5 : decode cX12_readAccount 5 = .ok (.iload_n 1, 1) := by decide +kernel
theorem dX12_readAccount_6 : decode cX12_readAccount 6 = .ok (.ifCond .ge 7, 3) := by decide +kernel
theorem dX12_readAccount_9 : decode cX12_readAccount 9 = .ok (.iconst (-1), 1) := by decide +kernel
theorem dX12_readAccount_10 : decode cX12_readAccount 10 = .ok (.goto 10, 3) := by decide +kernel
theorem dX12_readAccount_13 : decode cX12_readAccount 13 = .ok (.aload_n 0, 1) := by decide +kernel
theorem dX12_readAccount_14 : decode cX12_readAccount 14 = .ok (.iconst 0, 1) := by decide +kernel
theorem dX12_readAccount_15 : decode cX12_readAccount 15 = .ok (.ldc 140, 2) := by decide +kernel
theorem dX12_readAccount_17 : decode cX12_readAccount 17 = .ok (.invokevirtual 122, 3) := by decide +kernel
theorem dX12_readAccount_20 : decode cX12_readAccount 20 = .ok (.istore_n 2, 1) := by decide +kernel
theorem dX12_readAccount_21 : decode cX12_readAccount 21 = .ok (.iload_n 2, 1) := by decide +kernel
theorem dX12_readAccount_22 : decode cX12_readAccount 22 = .ok (.ifCond .ge 5, 3) := by decide +kernel
theorem dX12_readAccount_25 : decode cX12_readAccount 25 = .ok (.iconst 0, 1) := by decide +kernel
theorem dX12_readAccount_26 : decode cX12_readAccount 26 = .ok (.ireturn, 1) := by decide +kernel
theorem dX12_readAccount_27 : decode cX12_readAccount 27 = .ok (.aload_n 0, 1) := by decide +kernel
theorem dX12_readAccount_28 : decode cX12_readAccount 28 = .ok (.getfield 13, 3) := by decide +kernel
theorem dX12_readAccount_31 : decode cX12_readAccount 31 = .ok (.iload_n 1, 1) := by decide +kernel
theorem dX12_readAccount_32 : decode cX12_readAccount 32 = .ok (.iconst 1, 1) := by decide +kernel
theorem dX12_readAccount_33 : decode cX12_readAccount 33 = .ok (.invokestatic 64, 3) := by decide +kernel
theorem dX12_readAccount_36 : decode cX12_readAccount 36 = .ok (.iload_n 2, 1) := by decide +kernel
theorem dX12_readAccount_37 : decode cX12_readAccount 37 = .ok (.iastore, 1) := by decide +kernel
theorem dX12_readAccount_38 : decode cX12_readAccount 38 = .ok (.aload_n 0, 1) := by decide +kernel
theorem dX12_readAccount_39 : decode cX12_readAccount 39 = .ok (.getfield 13, 3) := by decide +kernel
theorem dX12_readAccount_42 : decode cX12_readAccount 42 = .ok (.iload_n 1, 1) := by decide +kernel
theorem dX12_readAccount_43 : decode cX12_readAccount 43 = .ok (.iconst 2, 1) := by decide +kernel
theorem dX12_readAccount_44 : decode cX12_readAccount 44 = .ok (.invokestatic 64, 3) := by decide +kernel
theorem dX12_readAccount_47 : decode cX12_readAccount 47 = .ok (.iconst 0, 1) := by decide +kernel
theorem dX12_readAccount_48 : decode cX12_readAccount 48 = .ok (.iastore, 1) := by decide +kernel
theorem dX12_readAccount_49 : decode cX12_readAccount 49 = .ok (.iconst 1, 1) := by decide +kernel
theorem dX12_readAccount_50 : decode cX12_readAccount 50 = .ok (.ireturn, 1) := by decide +kernel
theorem dX12_readTwo_0 : decode cX12_readTwo 0 = .ok (.aload_n 0, 1) := by decide +kernel
theorem dX12_readTwo_1 : decode cX12_readTwo 1 = .ok (.invokevirtual 137, 3) := by decide +kernel
theorem dX12_readTwo_4 : decode cX12_readTwo 4 = .ok (.istore_n 2, 1) := by decide +kernel
theorem dX12_readTwo_5 : decode cX12_readTwo 5 = .ok (.iload_n 2, 1) := by decide +kernel
theorem dX12_readTwo_6 : decode cX12_readTwo 6 = .ok (.ifCond .ge 7, 3) := by decide +kernel
theorem dX12_readTwo_9 : decode cX12_readTwo 9 = .ok (.iconst (-1), 1) := by decide +kernel
theorem dX12_readTwo_10 : decode cX12_readTwo 10 = .ok (.goto 7, 3) := by decide +kernel
theorem dX12_readTwo_13 : decode cX12_readTwo 13 = .ok (.aload_n 0, 1) := by decide +kernel
theorem dX12_readTwo_14 : decode cX12_readTwo 14 = .ok (.invokevirtual 137, 3) := by decide +kernel
theorem dX12_readTwo_17 : decode cX12_readTwo 17 = .ok (.istore_n 3, 1) := by decide +kernel
theorem dX12_readTwo_18 : decode cX12_readTwo 18 = .ok (.iload_n 3, 1) := by decide +kernel
theorem dX12_readTwo_19 : decode cX12_readTwo 19 = .ok (.ifCond .lt 8, 3) := by decide +kernel
theorem dX12_readTwo_22 : decode cX12_readTwo 22 = .ok (.iload_n 3, 1) := by decide +kernel
theorem dX12_readTwo_23 : decode cX12_readTwo 23 = .ok (.iload_n 2, 1) := by decide +kernel
theorem dX12_readTwo_24 : decode cX12_readTwo 24 = .ok (.if_icmp .ne 5, 3) := by decide +kernel
theorem dX12_readTwo_27 : decode cX12_readTwo 27 = .ok (.iconst 0, 1) := by decide +kernel
theorem dX12_readTwo_28 : decode cX12_readTwo 28 = .ok (.ireturn, 1) := by decide +kernel
theorem dX12_readTwo_29 : decode cX12_readTwo 29 = .ok (.iload_n 1, 1) := by decide +kernel
theorem dX12_readTwo_30 : decode cX12_readTwo 30 = .ok (.iconst 4, 1) := by decide +kernel
theorem dX12_readTwo_31 : decode cX12_readTwo 31 = .ok (.if_icmp .ne 17, 3) := by decide +kernel
theorem dX12_readTwo_34 : decode cX12_readTwo 34 = .ok (.aload_n 0, 1) := by decide +kernel
theorem dX12_readTwo_35 : decode cX12_readTwo 35 = .ok (.getfield 13, 3) := by decide +kernel
theorem dX12_readTwo_38 : decode cX12_readTwo 38 = .ok (.iload_n 2, 1) := by decide +kernel
theorem dX12_readTwo_39 : decode cX12_readTwo 39 = .ok (.iconst 4, 1) := by decide +kernel
theorem dX12_readTwo_40 : decode cX12_readTwo 40 = .ok (.invokestatic 64, 3) := by decide +kernel
theorem dX12_readTwo_43 : decode cX12_readTwo 43 = .ok (.iload_n 3, 1) := by decide +kernel
theorem dX12_readTwo_44 : decode cX12_readTwo 44 = .ok (.iastore, 1) := by decide +kernel
theorem dX12_readTwo_45 : decode cX12_readTwo 45 = .ok (.goto 24, 3) := by decide +kernel
theorem dX12_readTwo_48 : decode cX12_readTwo 48 = .ok (.iload_n 1, 1) := by decide +kernel
theorem dX12_readTwo_49 : decode cX12_readTwo 49 = .ok (.iconst 5, 1) := by decide +kernel
theorem dX12_readTwo_50 : decode cX12_readTwo 50 = .ok (.if_icmp .ne 19, 3) := by decide +kernel
theorem dX12_readTwo_53 : decode cX12_readTwo 53 = .ok (.aload_n 0, 1) := by decide +kernel
theorem dX12_readTwo_54 : decode cX12_readTwo 54 = .ok (.getfield 13, 3) := by decide +kernel
theorem dX12_readTwo_57 : decode cX12_readTwo 57 = .ok (.iload_n 2, 1) := by decide +kernel
theorem dX12_readTwo_58 : decode cX12_readTwo 58 = .ok (.iconst 5, 1) := by decide +kernel
theorem dX12_readTwo_59 : decode cX12_readTwo 59 = .ok (.invokestatic 64, 3) := by decide +kernel
theorem dX12_readTwo_62 : decode cX12_readTwo 62 = .ok (.dup2, 1) := by decide +kernel
theorem dX12_readTwo_63 : decode cX12_readTwo 63 = .ok (.iaload, 1) := by decide +kernel
theorem dX12_readTwo_64 : decode cX12_readTwo 64 = .ok (.iconst 1, 1) := by decide +kernel
theorem dX12_readTwo_65 : decode cX12_readTwo 65 = .ok (.iload_n 3, 1) := by decide +kernel
theorem dX12_readTwo_66 : decode cX12_readTwo 66 = .ok (.ishl, 1) := by decide +kernel
theorem dX12_readTwo_67 : decode cX12_readTwo 67 = .ok (.ior, 1) := by decide +kernel
theorem dX12_readTwo_68 : decode cX12_readTwo 68 = .ok (.iastore, 1) := by decide +kernel
theorem dX12_readTwo_69 : decode cX12_readTwo 69 = .ok (.iload_n 1, 1) := by decide +kernel
theorem dX12_readTwo_70 : decode cX12_readTwo 70 = .ok (.bipush 116, 2) := by decide +kernel
theorem dX12_readTwo_72 : decode cX12_readTwo 72 = .ok (.if_icmp .eq 5, 3) := by decide +kernel
theorem dX12_readTwo_75 : decode cX12_readTwo 75 = .ok (.iconst 1, 1) := by decide +kernel
theorem dX12_readTwo_76 : decode cX12_readTwo 76 = .ok (.ireturn, 1) := by decide +kernel
theorem dX12_readTwo_77 : decode cX12_readTwo 77 = .ok (.aload_n 0, 1) := by decide +kernel
theorem dX12_readTwo_78 : decode cX12_readTwo 78 = .ok (.iconst 0, 1) := by decide +kernel
theorem dX12_readTwo_79 : decode cX12_readTwo 79 = .ok (.sipush 9999, 3) := by decide +kernel
theorem dX12_readTwo_82 : decode cX12_readTwo 82 = .ok (.invokevirtual 122, 3) := by decide +kernel
theorem dX12_readTwo_85 : decode cX12_readTwo 85 = .ok (.istore 4, 2) := by decide +kernel
theorem dX12_readTwo_87 : decode cX12_readTwo 87 = .ok (.iload 4, 2) := by decide +kernel
theorem dX12_readTwo_89 : decode cX12_readTwo 89 = .ok (.ifCond .lt 15, 3) := by decide +kernel
theorem dX12_readTwo_92 : decode cX12_readTwo 92 = .ok (.aload_n 0, 1) := by decide +kernel
theorem dX12_readTwo_93 : decode cX12_readTwo 93 = .ok (.getfield 13, 3) := by decide +kernel
theorem dX12_readTwo_96 : decode cX12_readTwo 96 = .ok (.iload_n 2, 1) := by decide +kernel
theorem dX12_readTwo_97 : decode cX12_readTwo 97 = .ok (.iload_n 3, 1) := by decide +kernel
theorem dX12_readTwo_98 : decode cX12_readTwo 98 = .ok (.invokestatic 71, 3) := by decide +kernel
theorem dX12_readTwo_101 : decode cX12_readTwo 101 = .ok (.iload 4, 2) := by decide +kernel
theorem dX12_readTwo_103 : decode cX12_readTwo 103 = .ok (.iastore, 1) := by decide +kernel
theorem dX12_readTwo_104 : decode cX12_readTwo 104 = .ok (.iload 4, 2) := by decide +kernel
theorem dX12_readTwo_106 : decode cX12_readTwo 106 = .ok (.ifCond .lt 7, 3) := by decide +kernel
theorem dX12_readTwo_109 : decode cX12_readTwo 109 = .ok (.iconst 1, 1) := by decide +kernel
theorem dX12_readTwo_110 : decode cX12_readTwo 110 = .ok (.goto 4, 3) := by decide +kernel
theorem dX12_readTwo_113 : decode cX12_readTwo 113 = .ok (.iconst 0, 1) := by decide +kernel
theorem dX12_readTwo_114 : decode cX12_readTwo 114 = .ok (.ireturn, 1) := by decide +kernel
theorem dX12_readForged_0 : decode cX12_readForged 0 = .ok (.aload_n 0, 1) := by decide +kernel
theorem dX12_readForged_1 : decode cX12_readForged 1 = .ok (.invokevirtual 137, 3) := by decide +kernel
theorem dX12_readForged_4 : decode cX12_readForged 4 = .ok (.istore_n 1, 1) := by decide +kernel
theorem dX12_readForged_5 : decode cX12_readForged 5 = .ok (.iload_n 1, 1) := by decide +kernel
theorem dX12_readForged_6 : decode cX12_readForged 6 = .ok (.ifCond .ge 7, 3) := by decide +kernel
theorem dX12_readForged_9 : decode cX12_readForged 9 = .ok (.iconst (-1), 1) := by decide +kernel
theorem dX12_readForged_10 : decode cX12_readForged 10 = .ok (.goto 14, 3) := by decide +kernel
theorem dX12_readForged_13 : decode cX12_readForged 13 = .ok (.aload_n 0, 1) := by decide +kernel
theorem dX12_readForged_14 : decode cX12_readForged 14 = .ok (.iconst 0, 1) := by decide +kernel
theorem dX12_readForged_15 : decode cX12_readForged 15 = .ok (.aload_n 0, 1) := by decide +kernel
theorem dX12_readForged_16 : decode cX12_readForged 16 = .ok (.iload_n 1, 1) := by decide +kernel
theorem dX12_readForged_17 : decode cX12_readForged 17 = .ok (.iconst 1, 1) := by decide +kernel
theorem dX12_readForged_18 : decode cX12_readForged 18 = .ok (.invokevirtual 68, 3) := by decide +kernel
theorem dX12_readForged_21 : decode cX12_readForged 21 = .ok (.invokevirtual 122, 3) := by decide +kernel
theorem dX12_readForged_24 : decode cX12_readForged 24 = .ok (.istore_n 2, 1) := by decide +kernel
theorem dX12_readForged_25 : decode cX12_readForged 25 = .ok (.iload_n 2, 1) := by decide +kernel
theorem dX12_readForged_26 : decode cX12_readForged 26 = .ok (.ifCond .lt 14, 3) := by decide +kernel
theorem dX12_readForged_29 : decode cX12_readForged 29 = .ok (.aload_n 0, 1) := by decide +kernel
theorem dX12_readForged_30 : decode cX12_readForged 30 = .ok (.getfield 13, 3) := by decide +kernel
theorem dX12_readForged_33 : decode cX12_readForged 33 = .ok (.iload_n 1, 1) := by decide +kernel
theorem dX12_readForged_34 : decode cX12_readForged 34 = .ok (.iconst 2, 1) := by decide +kernel
theorem dX12_readForged_35 : decode cX12_readForged 35 = .ok (.invokestatic 64, 3) := by decide +kernel
theorem dX12_readForged_38 : decode cX12_readForged 38 = .ok (.iload_n 2, 1) := by decide +kernel
theorem dX12_readForged_39 : decode cX12_readForged 39 = .ok (.iastore, 1) := by decide +kernel
theorem dX12_readForged_40 : decode cX12_readForged 40 = .ok (.iload_n 2, 1) := by decide +kernel
theorem dX12_readForged_41 : decode cX12_readForged 41 = .ok (.ifCond .lt 7, 3) := by decide +kernel
theorem dX12_readForged_44 : decode cX12_readForged 44 = .ok (.iconst 1, 1) := by decide +kernel
theorem dX12_readForged_45 : decode cX12_readForged 45 = .ok (.goto 4, 3) := by decide +kernel
theorem dX12_readForged_48 : decode cX12_readForged 48 = .ok (.iconst 0, 1) := by decide +kernel
theorem dX12_readForged_49 : decode cX12_readForged 49 = .ok (.ireturn, 1) := by decide +kernel
theorem dX12_readDead_0 : decode cX12_readDead 0 = .ok (.aload_n 0, 1) := by decide +kernel
theorem dX12_readDead_1 : decode cX12_readDead 1 = .ok (.invokevirtual 137, 3) := by decide +kernel
theorem dX12_readDead_4 : decode cX12_readDead 4 = .ok (.istore_n 1, 1) := by decide +kernel
theorem dX12_readDead_5 : decode cX12_readDead 5 = .ok (.iload_n 1, 1) := by decide +kernel
theorem dX12_readDead_6 : decode cX12_readDead 6 = .ok (.ifCond .lt 14, 3) := by decide +kernel
theorem dX12_readDead_9 : decode cX12_readDead 9 = .ok (.aload_n 0, 1) := by decide +kernel
theorem dX12_readDead_10 : decode cX12_readDead 10 = .ok (.getfield 13, 3) := by decide +kernel
theorem dX12_readDead_13 : decode cX12_readDead 13 = .ok (.iload_n 1, 1) := by decide +kernel
theorem dX12_readDead_14 : decode cX12_readDead 14 = .ok (.iconst 3, 1) := by decide +kernel
theorem dX12_readDead_15 : decode cX12_readDead 15 = .ok (.invokestatic 64, 3) := by decide +kernel
theorem dX12_readDead_18 : decode cX12_readDead 18 = .ok (.iconst 1, 1) := by decide +kernel
theorem dX12_readDead_19 : decode cX12_readDead 19 = .ok (.iastore, 1) := by decide +kernel
theorem dX12_readDead_20 : decode cX12_readDead 20 = .ok (.iload_n 1, 1) := by decide +kernel
theorem dX12_readDead_21 : decode cX12_readDead 21 = .ok (.ifCond .lt 7, 3) := by decide +kernel
theorem dX12_readDead_24 : decode cX12_readDead 24 = .ok (.iconst 1, 1) := by decide +kernel
theorem dX12_readDead_25 : decode cX12_readDead 25 = .ok (.goto 4, 3) := by decide +kernel
theorem dX12_readDead_28 : decode cX12_readDead 28 = .ok (.iconst 0, 1) := by decide +kernel
theorem dX12_readDead_29 : decode cX12_readDead 29 = .ok (.ireturn, 1) := by decide +kernel
theorem dX12_readNumber_0 : decode cX12_readNumber 0 = .ok (.aload_n 0, 1) := by decide +kernel
theorem dX12_readNumber_1 : decode cX12_readNumber 1 = .ok (.iconst 0, 1) := by decide +kernel
theorem dX12_readNumber_2 : decode cX12_readNumber 2 = .ok (.iload_n 2, 1) := by decide +kernel
theorem dX12_readNumber_3 : decode cX12_readNumber 3 = .ok (.invokevirtual 122, 3) := by decide +kernel
theorem dX12_readNumber_6 : decode cX12_readNumber 6 = .ok (.istore_n 3, 1) := by decide +kernel
theorem dX12_readNumber_7 : decode cX12_readNumber 7 = .ok (.aload_n 0, 1) := by decide +kernel
theorem dX12_readNumber_8 : decode cX12_readNumber 8 = .ok (.getfield 13, 3) := by decide +kernel
theorem dX12_readNumber_11 : decode cX12_readNumber 11 = .ok (.iload_n 1, 1) := by decide +kernel
theorem dX12_readNumber_12 : decode cX12_readNumber 12 = .ok (.iload_n 3, 1) := by decide +kernel
theorem dX12_readNumber_13 : decode cX12_readNumber 13 = .ok (.ifCond .ge 12, 3) := by decide +kernel
theorem dX12_readNumber_16 : decode cX12_readNumber 16 = .ok (.aload_n 0, 1) := by decide +kernel
theorem dX12_readNumber_17 : decode cX12_readNumber 17 = .ok (.getfield 13, 3) := by decide +kernel
theorem dX12_readNumber_20 : decode cX12_readNumber 20 = .ok (.iload_n 1, 1) := by decide +kernel
theorem dX12_readNumber_21 : decode cX12_readNumber 21 = .ok (.iaload, 1) := by decide +kernel
theorem dX12_readNumber_22 : decode cX12_readNumber 22 = .ok (.goto 4, 3) := by decide +kernel
theorem dX12_readNumber_25 : decode cX12_readNumber 25 = .ok (.iload_n 3, 1) := by decide +kernel
theorem dX12_readNumber_26 : decode cX12_readNumber 26 = .ok (.iastore, 1) := by decide +kernel
theorem dX12_readNumber_27 : decode cX12_readNumber 27 = .ok (.iload_n 3, 1) := by decide +kernel
theorem dX12_readNumber_28 : decode cX12_readNumber 28 = .ok (.ifCond .lt 7, 3) := by decide +kernel
theorem dX12_readNumber_31 : decode cX12_readNumber 31 = .ok (.iconst 1, 1) := by decide +kernel
theorem dX12_readNumber_32 : decode cX12_readNumber 32 = .ok (.goto 4, 3) := by decide +kernel
theorem dX12_readNumber_35 : decode cX12_readNumber 35 = .ok (.iconst 0, 1) := by decide +kernel
theorem dX12_readNumber_36 : decode cX12_readNumber 36 = .ok (.ireturn, 1) := by decide +kernel
theorem dX12_readBankLine_0 : decode cX12_readBankLine 0 = .ok (.aload_n 0, 1) := by decide +kernel
theorem dX12_readBankLine_1 : decode cX12_readBankLine 1 = .ok (.ldc 141, 2) := by decide +kernel
theorem dX12_readBankLine_3 : decode cX12_readBankLine 3 = .ok (.invokevirtual 114, 3) := by decide +kernel
theorem dX12_readBankLine_6 : decode cX12_readBankLine 6 = .ok (.ifCond .eq 8, 3) := by decide +kernel
theorem dX12_readBankLine_9 : decode cX12_readBankLine 9 = .ok (.aload_n 0, 1) := by decide +kernel
theorem dX12_readBankLine_10 : decode cX12_readBankLine 10 = .ok (.invokevirtual 143, 3) := by decide +kernel
theorem dX12_readBankLine_13 : decode cX12_readBankLine 13 = .ok (.ireturn, 1) := by decide +kernel
theorem dX12_readBankLine_14 : decode cX12_readBankLine 14 = .ok (.aload_n 0, 1) := by decide +kernel
theorem dX12_readBankLine_15 : decode cX12_readBankLine 15 = .ok (.ldc 147, 2) := by decide +kernel
theorem dX12_readBankLine_17 : decode cX12_readBankLine 17 = .ok (.invokevirtual 114, 3) := by decide +kernel
theorem dX12_readBankLine_20 : decode cX12_readBankLine 20 = .ok (.ifCond .eq 8, 3) := by decide +kernel
theorem dX12_readBankLine_23 : decode cX12_readBankLine 23 = .ok (.aload_n 0, 1) := by decide +kernel
theorem dX12_readBankLine_24 : decode cX12_readBankLine 24 = .ok (.invokevirtual 149, 3) := by decide +kernel
theorem dX12_readBankLine_27 : decode cX12_readBankLine 27 = .ok (.ireturn, 1) := by decide +kernel
theorem dX12_readBankLine_28 : decode cX12_readBankLine 28 = .ok (.aload_n 0, 1) := by decide +kernel
theorem dX12_readBankLine_29 : decode cX12_readBankLine 29 = .ok (.ldc 152, 2) := by decide +kernel
theorem dX12_readBankLine_31 : decode cX12_readBankLine 31 = .ok (.invokevirtual 114, 3) := by decide +kernel
theorem dX12_readBankLine_34 : decode cX12_readBankLine 34 = .ok (.ifCond .eq 9, 3) := by decide +kernel
theorem dX12_readBankLine_37 : decode cX12_readBankLine 37 = .ok (.aload_n 0, 1) := by decide +kernel
theorem dX12_readBankLine_38 : decode cX12_readBankLine 38 = .ok (.iconst 4, 1) := by decide +kernel
theorem dX12_readBankLine_39 : decode cX12_readBankLine 39 = .ok (.invokevirtual 154, 3) := by decide +kernel
theorem dX12_readBankLine_42 : decode cX12_readBankLine 42 = .ok (.ireturn, 1) := by decide +kernel
theorem dX12_readBankLine_43 : decode cX12_readBankLine 43 = .ok (.aload_n 0, 1) := by decide +kernel
theorem dX12_readBankLine_44 : decode cX12_readBankLine 44 = .ok (.ldc 157, 2) := by decide +kernel
theorem dX12_readBankLine_46 : decode cX12_readBankLine 46 = .ok (.invokevirtual 114, 3) := by decide +kernel
theorem dX12_readBankLine_49 : decode cX12_readBankLine 49 = .ok (.ifCond .eq 9, 3) := by decide +kernel
theorem dX12_readBankLine_52 : decode cX12_readBankLine 52 = .ok (.aload_n 0, 1) := by decide +kernel
theorem dX12_readBankLine_53 : decode cX12_readBankLine 53 = .ok (.iconst 5, 1) := by decide +kernel
theorem dX12_readBankLine_54 : decode cX12_readBankLine 54 = .ok (.invokevirtual 154, 3) := by decide +kernel
theorem dX12_readBankLine_57 : decode cX12_readBankLine 57 = .ok (.ireturn, 1) := by decide +kernel
theorem dX12_readBankLine_58 : decode cX12_readBankLine 58 = .ok (.aload_n 0, 1) := by decide +kernel
theorem dX12_readBankLine_59 : decode cX12_readBankLine 59 = .ok (.ldc 159, 2) := by decide +kernel
theorem dX12_readBankLine_61 : decode cX12_readBankLine 61 = .ok (.invokevirtual 114, 3) := by decide +kernel
theorem dX12_readBankLine_64 : decode cX12_readBankLine 64 = .ok (.ifCond .eq 10, 3) := by decide +kernel
theorem dX12_readBankLine_67 : decode cX12_readBankLine 67 = .ok (.aload_n 0, 1) := by decide +kernel
theorem dX12_readBankLine_68 : decode cX12_readBankLine 68 = .ok (.bipush 116, 2) := by decide +kernel
theorem dX12_readBankLine_70 : decode cX12_readBankLine 70 = .ok (.invokevirtual 154, 3) := by decide +kernel
theorem dX12_readBankLine_73 : decode cX12_readBankLine 73 = .ok (.ireturn, 1) := by decide +kernel
theorem dX12_readBankLine_74 : decode cX12_readBankLine 74 = .ok (.aload_n 0, 1) := by decide +kernel
theorem dX12_readBankLine_75 : decode cX12_readBankLine 75 = .ok (.ldc 161, 2) := by decide +kernel
theorem dX12_readBankLine_77 : decode cX12_readBankLine 77 = .ok (.invokevirtual 114, 3) := by decide +kernel
theorem dX12_readBankLine_80 : decode cX12_readBankLine 80 = .ok (.ifCond .eq 8, 3) := by decide +kernel
theorem dX12_readBankLine_83 : decode cX12_readBankLine 83 = .ok (.aload_n 0, 1) := by decide +kernel
theorem dX12_readBankLine_84 : decode cX12_readBankLine 84 = .ok (.invokevirtual 163, 3) := by decide +kernel
theorem dX12_readBankLine_87 : decode cX12_readBankLine 87 = .ok (.ireturn, 1) := by decide +kernel
theorem dX12_readBankLine_88 : decode cX12_readBankLine 88 = .ok (.aload_n 0, 1) := by decide +kernel
theorem dX12_readBankLine_89 : decode cX12_readBankLine 89 = .ok (.ldc 166, 2) := by decide +kernel
theorem dX12_readBankLine_91 : decode cX12_readBankLine 91 = .ok (.invokevirtual 114, 3) := by decide +kernel
theorem dX12_readBankLine_94 : decode cX12_readBankLine 94 = .ok (.ifCond .eq 8, 3) := by decide +kernel
theorem dX12_readBankLine_97 : decode cX12_readBankLine 97 = .ok (.aload_n 0, 1) := by decide +kernel
theorem dX12_readBankLine_98 : decode cX12_readBankLine 98 = .ok (.invokevirtual 168, 3) := by decide +kernel
theorem dX12_readBankLine_101 : decode cX12_readBankLine 101 = .ok (.ireturn, 1) := by decide +kernel
theorem dX12_readBankLine_102 : decode cX12_readBankLine 102 = .ok (.aload_n 0, 1) := by decide +kernel
theorem dX12_readBankLine_103 : decode cX12_readBankLine 103 = .ok (.ldc 171, 2) := by decide +kernel
theorem dX12_readBankLine_105 : decode cX12_readBankLine 105 = .ok (.invokevirtual 114, 3) := by decide +kernel
theorem dX12_readBankLine_108 : decode cX12_readBankLine 108 = .ok (.ifCond .eq 11, 3) := by decide +kernel
theorem dX12_readBankLine_111 : decode cX12_readBankLine 111 = .ok (.aload_n 0, 1) := by decide +kernel
theorem dX12_readBankLine_112 : decode cX12_readBankLine 112 = .ok (.iconst 4, 1) := by decide +kernel
theorem dX12_readBankLine_113 : decode cX12_readBankLine 113 = .ok (.ldc 140, 2) := by decide +kernel
theorem dX12_readBankLine_115 : decode cX12_readBankLine 115 = .ok (.invokevirtual 173, 3) := by decide +kernel
theorem dX12_readBankLine_118 : decode cX12_readBankLine 118 = .ok (.ireturn, 1) := by decide +kernel
theorem dX12_readBankLine_119 : decode cX12_readBankLine 119 = .ok (.aload_n 0, 1) := by decide +kernel
theorem dX12_readBankLine_120 : decode cX12_readBankLine 120 = .ok (.ldc 176, 2) := by decide +kernel
theorem dX12_readBankLine_122 : decode cX12_readBankLine 122 = .ok (.invokevirtual 114, 3) := by decide +kernel
theorem dX12_readBankLine_125 : decode cX12_readBankLine 125 = .ok (.ifCond .eq 11, 3) := by decide +kernel
theorem dX12_readBankLine_128 : decode cX12_readBankLine 128 = .ok (.aload_n 0, 1) := by decide +kernel
theorem dX12_readBankLine_129 : decode cX12_readBankLine 129 = .ok (.iconst 5, 1) := by decide +kernel
theorem dX12_readBankLine_130 : decode cX12_readBankLine 130 = .ok (.bipush 20, 2) := by decide +kernel
theorem dX12_readBankLine_132 : decode cX12_readBankLine 132 = .ok (.invokevirtual 173, 3) := by decide +kernel
theorem dX12_readBankLine_135 : decode cX12_readBankLine 135 = .ok (.ireturn, 1) := by decide +kernel
theorem dX12_readBankLine_136 : decode cX12_readBankLine 136 = .ok (.aload_n 0, 1) := by decide +kernel
theorem dX12_readBankLine_137 : decode cX12_readBankLine 137 = .ok (.ldc 178, 2) := by decide +kernel
theorem dX12_readBankLine_139 : decode cX12_readBankLine 139 = .ok (.invokevirtual 114, 3) := by decide +kernel
theorem dX12_readBankLine_142 : decode cX12_readBankLine 142 = .ok (.ifCond .eq 12, 3) := by decide +kernel
theorem dX12_readBankLine_145 : decode cX12_readBankLine 145 = .ok (.aload_n 0, 1) := by decide +kernel
theorem dX12_readBankLine_146 : decode cX12_readBankLine 146 = .ok (.bipush 6, 2) := by decide +kernel
theorem dX12_readBankLine_148 : decode cX12_readBankLine 148 = .ok (.bipush 100, 2) := by decide +kernel
theorem dX12_readBankLine_150 : decode cX12_readBankLine 150 = .ok (.invokevirtual 173, 3) := by decide +kernel
theorem dX12_readBankLine_153 : decode cX12_readBankLine 153 = .ok (.ireturn, 1) := by decide +kernel
theorem dX12_readBankLine_154 : decode cX12_readBankLine 154 = .ok (.aload_n 0, 1) := by decide +kernel
theorem dX12_readBankLine_155 : decode cX12_readBankLine 155 = .ok (.ldc 180, 2) := by decide +kernel
theorem dX12_readBankLine_157 : decode cX12_readBankLine 157 = .ok (.invokevirtual 114, 3) := by decide +kernel
theorem dX12_readBankLine_160 : decode cX12_readBankLine 160 = .ok (.ifCond .eq 18, 3) := by decide +kernel
theorem dX12_readBankLine_163 : decode cX12_readBankLine 163 = .ok (.aload_n 0, 1) := by decide +kernel
theorem dX12_readBankLine_164 : decode cX12_readBankLine 164 = .ok (.bipush 7, 2) := by decide +kernel
theorem dX12_readBankLine_166 : decode cX12_readBankLine 166 = .ok (.bipush 100, 2) := by decide +kernel
theorem dX12_readBankLine_168 : decode cX12_readBankLine 168 = .ok (.invokevirtual 173, 3) := by decide +kernel
theorem dX12_readBankLine_171 : decode cX12_readBankLine 171 = .ok (.ifCond .eq 7, 3) := by decide +kernel
theorem dX12_readBankLine_174 : decode cX12_readBankLine 174 = .ok (.iconst 1, 1) := by decide +kernel
theorem dX12_readBankLine_175 : decode cX12_readBankLine 175 = .ok (.goto 4, 3) := by decide +kernel
theorem dX12_readBankLine_178 : decode cX12_readBankLine 178 = .ok (.iconst 0, 1) := by decide +kernel
theorem dX12_readBankLine_179 : decode cX12_readBankLine 179 = .ok (.ireturn, 1) := by decide +kernel
theorem dX12_emits_0 : decode cX12_emits 0 = .ok (.aload_n 0, 1) := by decide +kernel
theorem dX12_emits_1 : decode cX12_emits 1 = .ok (.getfield 13, 3) := by decide +kernel
theorem dX12_emits_4 : decode cX12_emits 4 = .ok (.sipush 1318, 3) := by decide +kernel
theorem dX12_emits_7 : decode cX12_emits 7 = .ok (.iconst 2, 1) := by decide +kernel
theorem dX12_emits_8 : decode cX12_emits 8 = .ok (.aload_n 0, 1) := by decide +kernel
theorem dX12_emits_9 : decode cX12_emits 9 = .ok (.getfield 182, 3) := by decide +kernel
theorem dX12_emits_12 : decode cX12_emits 12 = .ok (.imul, 1) := by decide +kernel
theorem dX12_emits_13 : decode cX12_emits 13 = .ok (.iadd, 1) := by decide +kernel
theorem dX12_emits_14 : decode cX12_emits 14 = .ok (.iload_n 1, 1) := by decide +kernel
theorem dX12_emits_15 : decode cX12_emits 15 = .ok (.iastore, 1) := by decide +kernel
theorem dX12_emits_16 : decode cX12_emits 16 = .ok (.aload_n 0, 1) := by decide +kernel
theorem dX12_emits_17 : decode cX12_emits 17 = .ok (.getfield 13, 3) := by decide +kernel
theorem dX12_emits_20 : decode cX12_emits 20 = .ok (.sipush 1318, 3) := by decide +kernel
theorem dX12_emits_23 : decode cX12_emits 23 = .ok (.iconst 2, 1) := by decide +kernel
theorem dX12_emits_24 : decode cX12_emits 24 = .ok (.aload_n 0, 1) := by decide +kernel
theorem dX12_emits_25 : decode cX12_emits 25 = .ok (.getfield 182, 3) := by decide +kernel
theorem dX12_emits_28 : decode cX12_emits 28 = .ok (.imul, 1) := by decide +kernel
theorem dX12_emits_29 : decode cX12_emits 29 = .ok (.iadd, 1) := by decide +kernel
theorem dX12_emits_30 : decode cX12_emits 30 = .ok (.iconst 1, 1) := by decide +kernel
theorem dX12_emits_31 : decode cX12_emits 31 = .ok (.iadd, 1) := by decide +kernel
theorem dX12_emits_32 : decode cX12_emits 32 = .ok (.iload_n 2, 1) := by decide +kernel
theorem dX12_emits_33 : decode cX12_emits 33 = .ok (.iastore, 1) := by decide +kernel
theorem dX12_emits_34 : decode cX12_emits 34 = .ok (.aload_n 0, 1) := by decide +kernel
theorem dX12_emits_35 : decode cX12_emits 35 = .ok (.dup, 1) := by decide +kernel
theorem dX12_emits_36 : decode cX12_emits 36 = .ok (.getfield 182, 3) := by decide +kernel
theorem dX12_emits_39 : decode cX12_emits 39 = .ok (.iconst 1, 1) := by decide +kernel
theorem dX12_emits_40 : decode cX12_emits 40 = .ok (.iadd, 1) := by decide +kernel
theorem dX12_emits_41 : decode cX12_emits 41 = .ok (.putfield 182, 3) := by decide +kernel
theorem dX12_emits_44 : decode cX12_emits 44 = .ok (.return_, 1) := by decide +kernel
theorem dX12_readPart_0 : decode cX12_readPart 0 = .ok (.aload_n 0, 1) := by decide +kernel
theorem dX12_readPart_1 : decode cX12_readPart 1 = .ok (.invokevirtual 111, 3) := by decide +kernel
theorem dX12_readPart_4 : decode cX12_readPart 4 = .ok (.aload_n 0, 1) := by decide +kernel
theorem dX12_readPart_5 : decode cX12_readPart 5 = .ok (.getfield 86, 3) := by decide +kernel
theorem dX12_readPart_8 : decode cX12_readPart 8 = .ok (.aload_n 0, 1) := by decide +kernel
theorem dX12_readPart_9 : decode cX12_readPart 9 = .ok (.getfield 96, 3) := by decide +kernel
theorem dX12_readPart_12 : decode cX12_readPart 12 = .ok (.if_icmp .ne 23, 3) := by decide +kernel
theorem dX12_readPart_15 : decode cX12_readPart 15 = .ok (.aload_n 0, 1) := by decide +kernel
theorem dX12_readPart_16 : decode cX12_readPart 16 = .ok (.iconst 0, 1) := by decide +kernel
theorem dX12_readPart_17 : decode cX12_readPart 17 = .ok (.sipush 999, 3) := by decide +kernel
theorem dX12_readPart_20 : decode cX12_readPart 20 = .ok (.iconst 3, 1) := by decide +kernel
theorem dX12_readPart_21 : decode cX12_readPart 21 = .ok (.invokevirtual 118, 3) := by decide +kernel
theorem dX12_readPart_24 : decode cX12_readPart 24 = .ok (.istore_n 1, 1) := by decide +kernel
theorem dX12_readPart_25 : decode cX12_readPart 25 = .ok (.aload_n 0, 1) := by decide +kernel
theorem dX12_readPart_26 : decode cX12_readPart 26 = .ok (.bipush 7, 2) := by decide +kernel
theorem dX12_readPart_28 : decode cX12_readPart 28 = .ok (.iload_n 1, 1) := by decide +kernel
theorem dX12_readPart_29 : decode cX12_readPart 29 = .ok (.invokevirtual 185, 3) := by decide +kernel
theorem dX12_readPart_32 : decode cX12_readPart 32 = .ok (.goto 76, 3) := by decide +kernel
theorem dX12_readPart_35 : decode cX12_readPart 35 = .ok (.aload_n 0, 1) := by decide +kernel
theorem dX12_readPart_36 : decode cX12_readPart 36 = .ok (.ldc 189, 2) := by decide +kernel
theorem dX12_readPart_38 : decode cX12_readPart 38 = .ok (.invokevirtual 114, 3) := by decide +kernel
theorem dX12_readPart_41 : decode cX12_readPart 41 = .ok (.ifCond .eq 7, 3) := by decide +kernel
theorem dX12_readPart_44 : decode cX12_readPart 44 = .ok (.iconst 0, 1) := by decide +kernel
theorem dX12_readPart_45 : decode cX12_readPart 45 = .ok (.goto 56, 3) := by decide +kernel
theorem dX12_readPart_48 : decode cX12_readPart 48 = .ok (.aload_n 0, 1) := by decide +kernel
theorem dX12_readPart_49 : decode cX12_readPart 49 = .ok (.ldc 131, 2) := by decide +kernel
theorem dX12_readPart_51 : decode cX12_readPart 51 = .ok (.invokevirtual 114, 3) := by decide +kernel
theorem dX12_readPart_54 : decode cX12_readPart 54 = .ok (.ifCond .eq 7, 3) := by decide +kernel
theorem dX12_readPart_57 : decode cX12_readPart 57 = .ok (.iconst 1, 1) := by decide +kernel
theorem dX12_readPart_58 : decode cX12_readPart 58 = .ok (.goto 43, 3) := by decide +kernel
theorem dX12_readPart_61 : decode cX12_readPart 61 = .ok (.aload_n 0, 1) := by decide +kernel
theorem dX12_readPart_62 : decode cX12_readPart 62 = .ok (.ldc 147, 2) := by decide +kernel
theorem dX12_readPart_64 : decode cX12_readPart 64 = .ok (.invokevirtual 114, 3) := by decide +kernel
theorem dX12_readPart_67 : decode cX12_readPart 67 = .ok (.ifCond .eq 7, 3) := by decide +kernel
theorem dX12_readPart_70 : decode cX12_readPart 70 = .ok (.iconst 2, 1) := by decide +kernel
theorem dX12_readPart_71 : decode cX12_readPart 71 = .ok (.goto 30, 3) := by decide +kernel
theorem dX12_readPart_74 : decode cX12_readPart 74 = .ok (.aload_n 0, 1) := by decide +kernel
theorem dX12_readPart_75 : decode cX12_readPart 75 = .ok (.ldc 125, 2) := by decide +kernel
theorem dX12_readPart_77 : decode cX12_readPart 77 = .ok (.invokevirtual 114, 3) := by decide +kernel
theorem dX12_readPart_80 : decode cX12_readPart 80 = .ok (.ifCond .eq 7, 3) := by decide +kernel
theorem dX12_readPart_83 : decode cX12_readPart 83 = .ok (.iconst 3, 1) := by decide +kernel
theorem dX12_readPart_84 : decode cX12_readPart 84 = .ok (.goto 17, 3) := by decide +kernel
theorem dX12_readPart_87 : decode cX12_readPart 87 = .ok (.aload_n 0, 1) := by decide +kernel
theorem dX12_readPart_88 : decode cX12_readPart 88 = .ok (.ldc 191, 2) := by decide +kernel
theorem dX12_readPart_90 : decode cX12_readPart 90 = .ok (.invokevirtual 114, 3) := by decide +kernel
theorem dX12_readPart_93 : decode cX12_readPart 93 = .ok (.ifCond .eq 7, 3) := by decide +kernel
theorem dX12_readPart_96 : decode cX12_readPart 96 = .ok (.iconst 4, 1) := by decide +kernel
theorem dX12_readPart_97 : decode cX12_readPart 97 = .ok (.goto 4, 3) := by decide +kernel
theorem dX12_readPart_100 : decode cX12_readPart 100 = .ok (.iconst (-1), 1) := by decide +kernel
theorem dX12_readPart_101 : decode cX12_readPart 101 = .ok (.istore_n 1, 1) := by decide +kernel
theorem dX12_readPart_102 : decode cX12_readPart 102 = .ok (.aload_n 0, 1) := by decide +kernel
theorem dX12_readPart_103 : decode cX12_readPart 103 = .ok (.iload_n 1, 1) := by decide +kernel
theorem dX12_readPart_104 : decode cX12_readPart 104 = .ok (.iconst 0, 1) := by decide +kernel
theorem dX12_readPart_105 : decode cX12_readPart 105 = .ok (.invokevirtual 185, 3) := by decide +kernel
theorem dX12_readPart_108 : decode cX12_readPart 108 = .ok (.iload_n 1, 1) := by decide +kernel
theorem dX12_readPart_109 : decode cX12_readPart 109 = .ok (.ifCond .lt 7, 3) := by decide +kernel
theorem dX12_readPart_112 : decode cX12_readPart 112 = .ok (.iconst 1, 1) := by decide +kernel
theorem dX12_readPart_113 : decode cX12_readPart 113 = .ok (.goto 4, 3) := by decide +kernel
theorem dX12_readPart_116 : decode cX12_readPart 116 = .ok (.iconst 0, 1) := by decide +kernel
theorem dX12_readPart_117 : decode cX12_readPart 117 = .ok (.ireturn, 1) := by decide +kernel
theorem dX12_readSum_0 : decode cX12_readSum 0 = .ok (.aload_n 0, 1) := by decide +kernel
theorem dX12_readSum_1 : decode cX12_readSum 1 = .ok (.invokevirtual 193, 3) := by decide +kernel
theorem dX12_readSum_4 : decode cX12_readSum 4 = .ok (.ifCond .ne 5, 3) := by decide +kernel
theorem dX12_readSum_7 : decode cX12_readSum 7 = .ok (.iconst 0, 1) := by decide +kernel
theorem dX12_readSum_8 : decode cX12_readSum 8 = .ok (.ireturn, 1) := by decide +kernel
theorem dX12_readSum_9 : decode cX12_readSum 9 = .ok (.aload_n 0, 1) := by decide +kernel
theorem dX12_readSum_10 : decode cX12_readSum 10 = .ok (.bipush 43, 2) := by decide +kernel
theorem dX12_readSum_12 : decode cX12_readSum 12 = .ok (.invokevirtual 196, 3) := by decide +kernel
theorem dX12_readSum_15 : decode cX12_readSum 15 = .ok (.ifCond .eq 22, 3) := by decide +kernel
theorem dX12_readSum_18 : decode cX12_readSum 18 = .ok (.aload_n 0, 1) := by decide +kernel
theorem dX12_readSum_19 : decode cX12_readSum 19 = .ok (.invokevirtual 193, 3) := by decide +kernel
theorem dX12_readSum_22 : decode cX12_readSum 22 = .ok (.ifCond .ne 5, 3) := by decide +kernel
theorem dX12_readSum_25 : decode cX12_readSum 25 = .ok (.iconst 0, 1) := by decide +kernel
theorem dX12_readSum_26 : decode cX12_readSum 26 = .ok (.ireturn, 1) := by decide +kernel
theorem dX12_readSum_27 : decode cX12_readSum 27 = .ok (.aload_n 0, 1) := by decide +kernel
theorem dX12_readSum_28 : decode cX12_readSum 28 = .ok (.bipush 8, 2) := by decide +kernel
theorem dX12_readSum_30 : decode cX12_readSum 30 = .ok (.iconst 0, 1) := by decide +kernel
theorem dX12_readSum_31 : decode cX12_readSum 31 = .ok (.invokevirtual 185, 3) := by decide +kernel
theorem dX12_readSum_34 : decode cX12_readSum 34 = .ok (.goto (-25), 3) := by decide +kernel
theorem dX12_readSum_37 : decode cX12_readSum 37 = .ok (.iconst 1, 1) := by decide +kernel
theorem dX12_readSum_38 : decode cX12_readSum 38 = .ok (.ireturn, 1) := by decide +kernel
theorem dX12_readTag_0 : decode cX12_readTag 0 = .ok (.aload_n 0, 1) := by decide +kernel
theorem dX12_readTag_1 : decode cX12_readTag 1 = .ok (.invokevirtual 111, 3) := by decide +kernel
theorem dX12_readTag_4 : decode cX12_readTag 4 = .ok (.aload_n 0, 1) := by decide +kernel
theorem dX12_readTag_5 : decode cX12_readTag 5 = .ok (.ldc 199, 2) := by decide +kernel
theorem dX12_readTag_7 : decode cX12_readTag 7 = .ok (.invokevirtual 114, 3) := by decide +kernel
theorem dX12_readTag_10 : decode cX12_readTag 10 = .ok (.ifCond .eq 7, 3) := by decide +kernel
theorem dX12_readTag_13 : decode cX12_readTag 13 = .ok (.iconst 5, 1) := by decide +kernel
theorem dX12_readTag_14 : decode cX12_readTag 14 = .ok (.goto 18, 3) := by decide +kernel
theorem dX12_readTag_17 : decode cX12_readTag 17 = .ok (.aload_n 0, 1) := by decide +kernel
theorem dX12_readTag_18 : decode cX12_readTag 18 = .ok (.ldc 201, 2) := by decide +kernel
theorem dX12_readTag_20 : decode cX12_readTag 20 = .ok (.invokevirtual 114, 3) := by decide +kernel
theorem dX12_readTag_23 : decode cX12_readTag 23 = .ok (.ifCond .eq 8, 3) := by decide +kernel
theorem dX12_readTag_26 : decode cX12_readTag 26 = .ok (.bipush 6, 2) := by decide +kernel
theorem dX12_readTag_28 : decode cX12_readTag 28 = .ok (.goto 4, 3) := by decide +kernel
theorem dX12_readTag_31 : decode cX12_readTag 31 = .ok (.iconst (-1), 1) := by decide +kernel
theorem dX12_readTag_32 : decode cX12_readTag 32 = .ok (.istore_n 1, 1) := by decide +kernel
theorem dX12_readTag_33 : decode cX12_readTag 33 = .ok (.iload_n 1, 1) := by decide +kernel
theorem dX12_readTag_34 : decode cX12_readTag 34 = .ok (.ifCond .lt 12, 3) := by decide +kernel
theorem dX12_readTag_37 : decode cX12_readTag 37 = .ok (.aload_n 0, 1) := by decide +kernel
theorem dX12_readTag_38 : decode cX12_readTag 38 = .ok (.iload_n 1, 1) := by decide +kernel
theorem dX12_readTag_39 : decode cX12_readTag 39 = .ok (.iconst 0, 1) := by decide +kernel
theorem dX12_readTag_40 : decode cX12_readTag 40 = .ok (.invokevirtual 185, 3) := by decide +kernel
theorem dX12_readTag_43 : decode cX12_readTag 43 = .ok (.goto 11, 3) := by decide +kernel
theorem dX12_readTag_46 : decode cX12_readTag 46 = .ok (.aload_n 0, 1) := by decide +kernel
theorem dX12_readTag_47 : decode cX12_readTag 47 = .ok (.aload_n 0, 1) := by decide +kernel
theorem dX12_readTag_48 : decode cX12_readTag 48 = .ok (.getfield 96, 3) := by decide +kernel
theorem dX12_readTag_51 : decode cX12_readTag 51 = .ok (.putfield 86, 3) := by decide +kernel
theorem dX12_readTag_54 : decode cX12_readTag 54 = .ok (.iload_n 1, 1) := by decide +kernel
theorem dX12_readTag_55 : decode cX12_readTag 55 = .ok (.ifCond .lt 7, 3) := by decide +kernel
theorem dX12_readTag_58 : decode cX12_readTag 58 = .ok (.iconst 1, 1) := by decide +kernel
theorem dX12_readTag_59 : decode cX12_readTag 59 = .ok (.goto 4, 3) := by decide +kernel
theorem dX12_readTag_62 : decode cX12_readTag 62 = .ok (.iconst 0, 1) := by decide +kernel
theorem dX12_readTag_63 : decode cX12_readTag 63 = .ok (.ireturn, 1) := by decide +kernel
theorem dX12_readAtom_0 : decode cX12_readAtom 0 = .ok (.aload_n 0, 1) := by decide +kernel
theorem dX12_readAtom_1 : decode cX12_readAtom 1 = .ok (.bipush 40, 2) := by decide +kernel
theorem dX12_readAtom_3 : decode cX12_readAtom 3 = .ok (.invokevirtual 196, 3) := by decide +kernel
theorem dX12_readAtom_6 : decode cX12_readAtom 6 = .ok (.ifCond .eq 50, 3) := by decide +kernel
theorem dX12_readAtom_9 : decode cX12_readAtom 9 = .ok (.aload_n 0, 1) := by decide +kernel
theorem dX12_readAtom_10 : decode cX12_readAtom 10 = .ok (.getfield 203, 3) := by decide +kernel
theorem dX12_readAtom_13 : decode cX12_readAtom 13 = .ok (.bipush 6, 2) := by decide +kernel
theorem dX12_readAtom_15 : decode cX12_readAtom 15 = .ok (.if_icmp .ne 5, 3) := by decide +kernel
theorem dX12_readAtom_18 : decode cX12_readAtom 18 = .ok (.iconst 0, 1) := by decide +kernel
theorem dX12_readAtom_19 : decode cX12_readAtom 19 = .ok (.ireturn, 1) := by decide +kernel
theorem dX12_readAtom_20 : decode cX12_readAtom 20 = .ok (.aload_n 0, 1) := by decide +kernel
theorem dX12_readAtom_21 : decode cX12_readAtom 21 = .ok (.dup, 1) := by decide +kernel
theorem dX12_readAtom_22 : decode cX12_readAtom 22 = .ok (.getfield 203, 3) := by decide +kernel
theorem dX12_readAtom_25 : decode cX12_readAtom 25 = .ok (.iconst 1, 1) := by decide +kernel
theorem dX12_readAtom_26 : decode cX12_readAtom 26 = .ok (.iadd, 1) := by decide +kernel
theorem dX12_readAtom_27 : decode cX12_readAtom 27 = .ok (.putfield 203, 3) := by decide +kernel
theorem dX12_readAtom_30 : decode cX12_readAtom 30 = .ok (.aload_n 0, 1) := by decide +kernel
theorem dX12_readAtom_31 : decode cX12_readAtom 31 = .ok (.invokevirtual 206, 3) := by decide +kernel
theorem dX12_readAtom_34 : decode cX12_readAtom 34 = .ok (.ifCond .ne 5, 3) := by decide +kernel
theorem dX12_readAtom_37 : decode cX12_readAtom 37 = .ok (.iconst 0, 1) := by decide +kernel
theorem dX12_readAtom_38 : decode cX12_readAtom 38 = .ok (.ireturn, 1) := by decide +kernel
theorem dX12_readAtom_39 : decode cX12_readAtom 39 = .ok (.aload_n 0, 1) := by decide +kernel
theorem dX12_readAtom_40 : decode cX12_readAtom 40 = .ok (.dup, 1) := by decide +kernel
theorem dX12_readAtom_41 : decode cX12_readAtom 41 = .ok (.getfield 203, 3) := by decide +kernel
theorem dX12_readAtom_44 : decode cX12_readAtom 44 = .ok (.iconst 1, 1) := by decide +kernel
theorem dX12_readAtom_45 : decode cX12_readAtom 45 = .ok (.isub, 1) := by decide +kernel
theorem dX12_readAtom_46 : decode cX12_readAtom 46 = .ok (.putfield 203, 3) := by decide +kernel
theorem dX12_readAtom_49 : decode cX12_readAtom 49 = .ok (.aload_n 0, 1) := by decide +kernel
theorem dX12_readAtom_50 : decode cX12_readAtom 50 = .ok (.bipush 41, 2) := by decide +kernel
theorem dX12_readAtom_52 : decode cX12_readAtom 52 = .ok (.invokevirtual 196, 3) := by decide +kernel
theorem dX12_readAtom_55 : decode cX12_readAtom 55 = .ok (.ireturn, 1) := by decide +kernel
theorem dX12_readAtom_56 : decode cX12_readAtom 56 = .ok (.aload_n 0, 1) := by decide +kernel
theorem dX12_readAtom_57 : decode cX12_readAtom 57 = .ok (.ldc 209, 2) := by decide +kernel
theorem dX12_readAtom_59 : decode cX12_readAtom 59 = .ok (.invokevirtual 211, 3) := by decide +kernel
theorem dX12_readAtom_62 : decode cX12_readAtom 62 = .ok (.ifCond .eq 52, 3) := by decide +kernel
theorem dX12_readAtom_65 : decode cX12_readAtom 65 = .ok (.aload_n 0, 1) := by decide +kernel
theorem dX12_readAtom_66 : decode cX12_readAtom 66 = .ok (.getfield 203, 3) := by decide +kernel
theorem dX12_readAtom_69 : decode cX12_readAtom 69 = .ok (.bipush 6, 2) := by decide +kernel
theorem dX12_readAtom_71 : decode cX12_readAtom 71 = .ok (.if_icmp .ne 5, 3) := by decide +kernel
theorem dX12_readAtom_74 : decode cX12_readAtom 74 = .ok (.iconst 0, 1) := by decide +kernel
theorem dX12_readAtom_75 : decode cX12_readAtom 75 = .ok (.ireturn, 1) := by decide +kernel
theorem dX12_readAtom_76 : decode cX12_readAtom 76 = .ok (.aload_n 0, 1) := by decide +kernel
theorem dX12_readAtom_77 : decode cX12_readAtom 77 = .ok (.dup, 1) := by decide +kernel
theorem dX12_readAtom_78 : decode cX12_readAtom 78 = .ok (.getfield 203, 3) := by decide +kernel
theorem dX12_readAtom_81 : decode cX12_readAtom 81 = .ok (.iconst 1, 1) := by decide +kernel
theorem dX12_readAtom_82 : decode cX12_readAtom 82 = .ok (.iadd, 1) := by decide +kernel
theorem dX12_readAtom_83 : decode cX12_readAtom 83 = .ok (.putfield 203, 3) := by decide +kernel
theorem dX12_readAtom_86 : decode cX12_readAtom 86 = .ok (.aload_n 0, 1) := by decide +kernel
theorem dX12_readAtom_87 : decode cX12_readAtom 87 = .ok (.invokevirtual 214, 3) := by decide +kernel
theorem dX12_readAtom_90 : decode cX12_readAtom 90 = .ok (.ifCond .ne 5, 3) := by decide +kernel
theorem dX12_readAtom_93 : decode cX12_readAtom 93 = .ok (.iconst 0, 1) := by decide +kernel
theorem dX12_readAtom_94 : decode cX12_readAtom 94 = .ok (.ireturn, 1) := by decide +kernel
theorem dX12_readAtom_95 : decode cX12_readAtom 95 = .ok (.aload_n 0, 1) := by decide +kernel
theorem dX12_readAtom_96 : decode cX12_readAtom 96 = .ok (.dup, 1) := by decide +kernel
theorem dX12_readAtom_97 : decode cX12_readAtom 97 = .ok (.getfield 203, 3) := by decide +kernel
theorem dX12_readAtom_100 : decode cX12_readAtom 100 = .ok (.iconst 1, 1) := by decide +kernel
theorem dX12_readAtom_101 : decode cX12_readAtom 101 = .ok (.isub, 1) := by decide +kernel
theorem dX12_readAtom_102 : decode cX12_readAtom 102 = .ok (.putfield 203, 3) := by decide +kernel
theorem dX12_readAtom_105 : decode cX12_readAtom 105 = .ok (.aload_n 0, 1) := by decide +kernel
theorem dX12_readAtom_106 : decode cX12_readAtom 106 = .ok (.bipush 11, 2) := by decide +kernel
theorem dX12_readAtom_108 : decode cX12_readAtom 108 = .ok (.iconst 0, 1) := by decide +kernel
theorem dX12_readAtom_109 : decode cX12_readAtom 109 = .ok (.invokevirtual 185, 3) := by decide +kernel
theorem dX12_readAtom_112 : decode cX12_readAtom 112 = .ok (.iconst 1, 1) := by decide +kernel
theorem dX12_readAtom_113 : decode cX12_readAtom 113 = .ok (.ireturn, 1) := by decide +kernel
theorem dX12_readAtom_114 : decode cX12_readAtom 114 = .ok (.aload_n 0, 1) := by decide +kernel
theorem dX12_readAtom_115 : decode cX12_readAtom 115 = .ok (.invokevirtual 217, 3) := by decide +kernel
theorem dX12_readAtom_118 : decode cX12_readAtom 118 = .ok (.ifCond .eq 5, 3) := by decide +kernel
theorem dX12_readAtom_121 : decode cX12_readAtom 121 = .ok (.iconst 1, 1) := by decide +kernel
theorem dX12_readAtom_122 : decode cX12_readAtom 122 = .ok (.ireturn, 1) := by decide +kernel
theorem dX12_readAtom_123 : decode cX12_readAtom 123 = .ok (.aload_n 0, 1) := by decide +kernel
theorem dX12_readAtom_124 : decode cX12_readAtom 124 = .ok (.invokevirtual 220, 3) := by decide +kernel
theorem dX12_readAtom_127 : decode cX12_readAtom 127 = .ok (.ifCond .ne 5, 3) := by decide +kernel
theorem dX12_readAtom_130 : decode cX12_readAtom 130 = .ok (.iconst 0, 1) := by decide +kernel
theorem dX12_readAtom_131 : decode cX12_readAtom 131 = .ok (.ireturn, 1) := by decide +kernel
theorem dX12_readAtom_132 : decode cX12_readAtom 132 = .ok (.aload_n 0, 1) := by decide +kernel
theorem dX12_readAtom_133 : decode cX12_readAtom 133 = .ok (.bipush 60, 2) := by decide +kernel
theorem dX12_readAtom_135 : decode cX12_readAtom 135 = .ok (.invokevirtual 196, 3) := by decide +kernel
theorem dX12_readAtom_138 : decode cX12_readAtom 138 = .ok (.istore_n 1, 1) := by decide +kernel
theorem dX12_readAtom_139 : decode cX12_readAtom 139 = .ok (.iload_n 1, 1) := by decide +kernel
theorem dX12_readAtom_140 : decode cX12_readAtom 140 = .ok (.ifCond .ne 12, 3) := by decide +kernel
theorem dX12_readAtom_143 : decode cX12_readAtom 143 = .ok (.aload_n 0, 1) := by decide +kernel
theorem dX12_readAtom_144 : decode cX12_readAtom 144 = .ok (.bipush 62, 2) := by decide +kernel
theorem dX12_readAtom_146 : decode cX12_readAtom 146 = .ok (.invokevirtual 196, 3) := by decide +kernel
theorem dX12_readAtom_149 : decode cX12_readAtom 149 = .ok (.ifCond .eq 10, 3) := by decide +kernel
theorem dX12_readAtom_152 : decode cX12_readAtom 152 = .ok (.aload_n 0, 1) := by decide +kernel
theorem dX12_readAtom_153 : decode cX12_readAtom 153 = .ok (.invokevirtual 220, 3) := by decide +kernel
theorem dX12_readAtom_156 : decode cX12_readAtom 156 = .ok (.ifCond .ne 5, 3) := by decide +kernel
theorem dX12_readAtom_159 : decode cX12_readAtom 159 = .ok (.iconst 0, 1) := by decide +kernel
theorem dX12_readAtom_160 : decode cX12_readAtom 160 = .ok (.ireturn, 1) := by decide +kernel
theorem dX12_readAtom_161 : decode cX12_readAtom 161 = .ok (.aload_n 0, 1) := by decide +kernel
theorem dX12_readAtom_162 : decode cX12_readAtom 162 = .ok (.iload_n 1, 1) := by decide +kernel
theorem dX12_readAtom_163 : decode cX12_readAtom 163 = .ok (.ifCond .eq 8, 3) := by decide +kernel
theorem dX12_readAtom_166 : decode cX12_readAtom 166 = .ok (.bipush 9, 2) := by decide +kernel
theorem dX12_readAtom_168 : decode cX12_readAtom 168 = .ok (.goto 5, 3) := by decide +kernel
theorem dX12_readAtom_171 : decode cX12_readAtom 171 = .ok (.bipush 10, 2) := by decide +kernel
theorem dX12_readAtom_173 : decode cX12_readAtom 173 = .ok (.iconst 0, 1) := by decide +kernel
theorem dX12_readAtom_174 : decode cX12_readAtom 174 = .ok (.invokevirtual 185, 3) := by decide +kernel
theorem dX12_readAtom_177 : decode cX12_readAtom 177 = .ok (.iconst 1, 1) := by decide +kernel
theorem dX12_readAtom_178 : decode cX12_readAtom 178 = .ok (.ireturn, 1) := by decide +kernel
theorem dX12_readAllOf_0 : decode cX12_readAllOf 0 = .ok (.aload_n 0, 1) := by decide +kernel
theorem dX12_readAllOf_1 : decode cX12_readAllOf 1 = .ok (.invokevirtual 214, 3) := by decide +kernel
theorem dX12_readAllOf_4 : decode cX12_readAllOf 4 = .ok (.ifCond .ne 5, 3) := by decide +kernel
theorem dX12_readAllOf_7 : decode cX12_readAllOf 7 = .ok (.iconst 0, 1) := by decide +kernel
theorem dX12_readAllOf_8 : decode cX12_readAllOf 8 = .ok (.ireturn, 1) := by decide +kernel
theorem dX12_readAllOf_9 : decode cX12_readAllOf 9 = .ok (.aload_n 0, 1) := by decide +kernel
theorem dX12_readAllOf_10 : decode cX12_readAllOf 10 = .ok (.ldc 223, 2) := by decide +kernel
theorem dX12_readAllOf_12 : decode cX12_readAllOf 12 = .ok (.invokevirtual 211, 3) := by decide +kernel
theorem dX12_readAllOf_15 : decode cX12_readAllOf 15 = .ok (.ifCond .eq 22, 3) := by decide +kernel
theorem dX12_readAllOf_18 : decode cX12_readAllOf 18 = .ok (.aload_n 0, 1) := by decide +kernel
theorem dX12_readAllOf_19 : decode cX12_readAllOf 19 = .ok (.invokevirtual 214, 3) := by decide +kernel
theorem dX12_readAllOf_22 : decode cX12_readAllOf 22 = .ok (.ifCond .ne 5, 3) := by decide +kernel
theorem dX12_readAllOf_25 : decode cX12_readAllOf 25 = .ok (.iconst 0, 1) := by decide +kernel
theorem dX12_readAllOf_26 : decode cX12_readAllOf 26 = .ok (.ireturn, 1) := by decide +kernel
theorem dX12_readAllOf_27 : decode cX12_readAllOf 27 = .ok (.aload_n 0, 1) := by decide +kernel
theorem dX12_readAllOf_28 : decode cX12_readAllOf 28 = .ok (.bipush 12, 2) := by decide +kernel
theorem dX12_readAllOf_30 : decode cX12_readAllOf 30 = .ok (.iconst 0, 1) := by decide +kernel
theorem dX12_readAllOf_31 : decode cX12_readAllOf 31 = .ok (.invokevirtual 185, 3) := by decide +kernel
theorem dX12_readAllOf_34 : decode cX12_readAllOf 34 = .ok (.goto (-25), 3) := by decide +kernel
theorem dX12_readAllOf_37 : decode cX12_readAllOf 37 = .ok (.iconst 1, 1) := by decide +kernel
theorem dX12_readAllOf_38 : decode cX12_readAllOf 38 = .ok (.ireturn, 1) := by decide +kernel
theorem dX12_readCond_0 : decode cX12_readCond 0 = .ok (.aload_n 0, 1) := by decide +kernel
theorem dX12_readCond_1 : decode cX12_readCond 1 = .ok (.invokevirtual 225, 3) := by decide +kernel
theorem dX12_readCond_4 : decode cX12_readCond 4 = .ok (.ifCond .ne 5, 3) := by decide +kernel
theorem dX12_readCond_7 : decode cX12_readCond 7 = .ok (.iconst 0, 1) := by decide +kernel
theorem dX12_readCond_8 : decode cX12_readCond 8 = .ok (.ireturn, 1) := by decide +kernel
theorem dX12_readCond_9 : decode cX12_readCond 9 = .ok (.aload_n 0, 1) := by decide +kernel
theorem dX12_readCond_10 : decode cX12_readCond 10 = .ok (.ldc 228, 2) := by decide +kernel
theorem dX12_readCond_12 : decode cX12_readCond 12 = .ok (.invokevirtual 211, 3) := by decide +kernel
theorem dX12_readCond_15 : decode cX12_readCond 15 = .ok (.ifCond .eq 22, 3) := by decide +kernel
theorem dX12_readCond_18 : decode cX12_readCond 18 = .ok (.aload_n 0, 1) := by decide +kernel
theorem dX12_readCond_19 : decode cX12_readCond 19 = .ok (.invokevirtual 225, 3) := by decide +kernel
theorem dX12_readCond_22 : decode cX12_readCond 22 = .ok (.ifCond .ne 5, 3) := by decide +kernel
theorem dX12_readCond_25 : decode cX12_readCond 25 = .ok (.iconst 0, 1) := by decide +kernel
theorem dX12_readCond_26 : decode cX12_readCond 26 = .ok (.ireturn, 1) := by decide +kernel
theorem dX12_readCond_27 : decode cX12_readCond 27 = .ok (.aload_n 0, 1) := by decide +kernel
theorem dX12_readCond_28 : decode cX12_readCond 28 = .ok (.bipush 13, 2) := by decide +kernel
theorem dX12_readCond_30 : decode cX12_readCond 30 = .ok (.iconst 0, 1) := by decide +kernel
theorem dX12_readCond_31 : decode cX12_readCond 31 = .ok (.invokevirtual 185, 3) := by decide +kernel
theorem dX12_readCond_34 : decode cX12_readCond 34 = .ok (.goto (-25), 3) := by decide +kernel
theorem dX12_readCond_37 : decode cX12_readCond 37 = .ok (.iconst 1, 1) := by decide +kernel
theorem dX12_readCond_38 : decode cX12_readCond 38 = .ok (.ireturn, 1) := by decide +kernel
theorem dX12_readLawLine_0 : decode cX12_readLawLine 0 = .ok (.sipush 1270, 3) := by decide +kernel
theorem dX12_readLawLine_3 : decode cX12_readLawLine 3 = .ok (.iconst 4, 1) := by decide +kernel
theorem dX12_readLawLine_4 : decode cX12_readLawLine 4 = .ok (.iload_n 1, 1) := by decide +kernel
theorem dX12_readLawLine_5 : decode cX12_readLawLine 5 = .ok (.imul, 1) := by decide +kernel
theorem dX12_readLawLine_6 : decode cX12_readLawLine 6 = .ok (.iadd, 1) := by decide +kernel
theorem dX12_readLawLine_7 : decode cX12_readLawLine 7 = .ok (.istore_n 2, 1) := by decide +kernel
theorem dX12_readLawLine_8 : decode cX12_readLawLine 8 = .ok (.aload_n 0, 1) := by decide +kernel
theorem dX12_readLawLine_9 : decode cX12_readLawLine 9 = .ok (.ldc 230, 2) := by decide +kernel
theorem dX12_readLawLine_11 : decode cX12_readLawLine 11 = .ok (.invokevirtual 114, 3) := by decide +kernel
theorem dX12_readLawLine_14 : decode cX12_readLawLine 14 = .ok (.istore_n 3, 1) := by decide +kernel
theorem dX12_readLawLine_15 : decode cX12_readLawLine 15 = .ok (.iload_n 3, 1) := by decide +kernel
theorem dX12_readLawLine_16 : decode cX12_readLawLine 16 = .ok (.ifCond .ne 14, 3) := by decide +kernel
theorem dX12_readLawLine_19 : decode cX12_readLawLine 19 = .ok (.aload_n 0, 1) := by decide +kernel
theorem dX12_readLawLine_20 : decode cX12_readLawLine 20 = .ok (.ldc 232, 2) := by decide +kernel
theorem dX12_readLawLine_22 : decode cX12_readLawLine 22 = .ok (.invokevirtual 114, 3) := by decide +kernel
theorem dX12_readLawLine_25 : decode cX12_readLawLine 25 = .ok (.ifCond .ne 5, 3) := by decide +kernel
theorem dX12_readLawLine_28 : decode cX12_readLawLine 28 = .ok (.iconst 0, 1) := by decide +kernel
theorem dX12_readLawLine_29 : decode cX12_readLawLine 29 = .ok (.ireturn, 1) := by decide +kernel
theorem dX12_readLawLine_30 : decode cX12_readLawLine 30 = .ok (.aload_n 0, 1) := by decide +kernel
theorem dX12_readLawLine_31 : decode cX12_readLawLine 31 = .ok (.getfield 13, 3) := by decide +kernel
theorem dX12_readLawLine_34 : decode cX12_readLawLine 34 = .ok (.iload_n 2, 1) := by decide +kernel
theorem dX12_readLawLine_35 : decode cX12_readLawLine 35 = .ok (.iload_n 3, 1) := by decide +kernel
theorem dX12_readLawLine_36 : decode cX12_readLawLine 36 = .ok (.ifCond .eq 7, 3) := by decide +kernel
theorem dX12_readLawLine_39 : decode cX12_readLawLine 39 = .ok (.iconst 1, 1) := by decide +kernel
theorem dX12_readLawLine_40 : decode cX12_readLawLine 40 = .ok (.goto 4, 3) := by decide +kernel
theorem dX12_readLawLine_43 : decode cX12_readLawLine 43 = .ok (.iconst 0, 1) := by decide +kernel
theorem dX12_readLawLine_44 : decode cX12_readLawLine 44 = .ok (.iastore, 1) := by decide +kernel
theorem dX12_readLawLine_45 : decode cX12_readLawLine 45 = .ok (.aload_n 0, 1) := by decide +kernel
theorem dX12_readLawLine_46 : decode cX12_readLawLine 46 = .ok (.getfield 13, 3) := by decide +kernel
theorem dX12_readLawLine_49 : decode cX12_readLawLine 49 = .ok (.iload_n 2, 1) := by decide +kernel
theorem dX12_readLawLine_50 : decode cX12_readLawLine 50 = .ok (.iconst 1, 1) := by decide +kernel
theorem dX12_readLawLine_51 : decode cX12_readLawLine 51 = .ok (.iadd, 1) := by decide +kernel
theorem dX12_readLawLine_52 : decode cX12_readLawLine 52 = .ok (.aload_n 0, 1) := by decide +kernel
theorem dX12_readLawLine_53 : decode cX12_readLawLine 53 = .ok (.iconst 0, 1) := by decide +kernel
theorem dX12_readLawLine_54 : decode cX12_readLawLine 54 = .ok (.bipush 99, 2) := by decide +kernel
theorem dX12_readLawLine_56 : decode cX12_readLawLine 56 = .ok (.iconst 3, 1) := by decide +kernel
theorem dX12_readLawLine_57 : decode cX12_readLawLine 57 = .ok (.invokevirtual 118, 3) := by decide +kernel
theorem dX12_readLawLine_60 : decode cX12_readLawLine 60 = .ok (.iastore, 1) := by decide +kernel
theorem dX12_readLawLine_61 : decode cX12_readLawLine 61 = .ok (.aload_n 0, 1) := by decide +kernel
theorem dX12_readLawLine_62 : decode cX12_readLawLine 62 = .ok (.getfield 13, 3) := by decide +kernel
theorem dX12_readLawLine_65 : decode cX12_readLawLine 65 = .ok (.iload_n 2, 1) := by decide +kernel
theorem dX12_readLawLine_66 : decode cX12_readLawLine 66 = .ok (.iconst 1, 1) := by decide +kernel
theorem dX12_readLawLine_67 : decode cX12_readLawLine 67 = .ok (.iadd, 1) := by decide +kernel
theorem dX12_readLawLine_68 : decode cX12_readLawLine 68 = .ok (.iaload, 1) := by decide +kernel
theorem dX12_readLawLine_69 : decode cX12_readLawLine 69 = .ok (.ifCond .ge 5, 3) := by decide +kernel
theorem dX12_readLawLine_72 : decode cX12_readLawLine 72 = .ok (.iconst 0, 1) := by decide +kernel
theorem dX12_readLawLine_73 : decode cX12_readLawLine 73 = .ok (.ireturn, 1) := by decide +kernel
theorem dX12_readLawLine_74 : decode cX12_readLawLine 74 = .ok (.aload_n 0, 1) := by decide +kernel
theorem dX12_readLawLine_75 : decode cX12_readLawLine 75 = .ok (.getfield 13, 3) := by decide +kernel
theorem dX12_readLawLine_78 : decode cX12_readLawLine 78 = .ok (.iload_n 2, 1) := by decide +kernel
theorem dX12_readLawLine_79 : decode cX12_readLawLine 79 = .ok (.iconst 2, 1) := by decide +kernel
theorem dX12_readLawLine_80 : decode cX12_readLawLine 80 = .ok (.iadd, 1) := by decide +kernel
theorem dX12_readLawLine_81 : decode cX12_readLawLine 81 = .ok (.aload_n 0, 1) := by decide +kernel
theorem dX12_readLawLine_82 : decode cX12_readLawLine 82 = .ok (.getfield 182, 3) := by decide +kernel
theorem dX12_readLawLine_85 : decode cX12_readLawLine 85 = .ok (.iastore, 1) := by decide +kernel
theorem dX12_readLawLine_86 : decode cX12_readLawLine 86 = .ok (.aload_n 0, 1) := by decide +kernel
theorem dX12_readLawLine_87 : decode cX12_readLawLine 87 = .ok (.iconst 0, 1) := by decide +kernel
theorem dX12_readLawLine_88 : decode cX12_readLawLine 88 = .ok (.putfield 203, 3) := by decide +kernel
theorem dX12_readLawLine_91 : decode cX12_readLawLine 91 = .ok (.aload_n 0, 1) := by decide +kernel
theorem dX12_readLawLine_92 : decode cX12_readLawLine 92 = .ok (.ldc 234, 2) := by decide +kernel
theorem dX12_readLawLine_94 : decode cX12_readLawLine 94 = .ok (.invokevirtual 211, 3) := by decide +kernel
theorem dX12_readLawLine_97 : decode cX12_readLawLine 97 = .ok (.ifCond .eq 12, 3) := by decide +kernel
theorem dX12_readLawLine_100 : decode cX12_readLawLine 100 = .ok (.aload_n 0, 1) := by decide +kernel
theorem dX12_readLawLine_101 : decode cX12_readLawLine 101 = .ok (.invokevirtual 206, 3) := by decide +kernel
theorem dX12_readLawLine_104 : decode cX12_readLawLine 104 = .ok (.ifCond .ne 5, 3) := by decide +kernel
theorem dX12_readLawLine_107 : decode cX12_readLawLine 107 = .ok (.iconst 0, 1) := by decide +kernel
theorem dX12_readLawLine_108 : decode cX12_readLawLine 108 = .ok (.ireturn, 1) := by decide +kernel
theorem dX12_readLawLine_109 : decode cX12_readLawLine 109 = .ok (.aload_n 0, 1) := by decide +kernel
theorem dX12_readLawLine_110 : decode cX12_readLawLine 110 = .ok (.getfield 13, 3) := by decide +kernel
theorem dX12_readLawLine_113 : decode cX12_readLawLine 113 = .ok (.iload_n 2, 1) := by decide +kernel
theorem dX12_readLawLine_114 : decode cX12_readLawLine 114 = .ok (.iconst 3, 1) := by decide +kernel
theorem dX12_readLawLine_115 : decode cX12_readLawLine 115 = .ok (.iadd, 1) := by decide +kernel
theorem dX12_readLawLine_116 : decode cX12_readLawLine 116 = .ok (.aload_n 0, 1) := by decide +kernel
theorem dX12_readLawLine_117 : decode cX12_readLawLine 117 = .ok (.getfield 182, 3) := by decide +kernel
theorem dX12_readLawLine_120 : decode cX12_readLawLine 120 = .ok (.iastore, 1) := by decide +kernel
theorem dX12_readLawLine_121 : decode cX12_readLawLine 121 = .ok (.iconst 1, 1) := by decide +kernel
theorem dX12_readLawLine_122 : decode cX12_readLawLine 122 = .ok (.ireturn, 1) := by decide +kernel
theorem dX12_readLine_0 : decode cX12_readLine 0 = .ok (.aload_n 0, 1) := by decide +kernel
theorem dX12_readLine_1 : decode cX12_readLine 1 = .ok (.invokevirtual 111, 3) := by decide +kernel
theorem dX12_readLine_4 : decode cX12_readLine 4 = .ok (.iload_n 2, 1) := by decide +kernel
theorem dX12_readLine_5 : decode cX12_readLine 5 = .ok (.iload_n 1, 1) := by decide +kernel
theorem dX12_readLine_6 : decode cX12_readLine 6 = .ok (.ifCond .eq 8, 3) := by decide +kernel
theorem dX12_readLine_9 : decode cX12_readLine 9 = .ok (.bipush 14, 2) := by decide +kernel
theorem dX12_readLine_11 : decode cX12_readLine 11 = .ok (.goto 5, 3) := by decide +kernel
theorem dX12_readLine_14 : decode cX12_readLine 14 = .ok (.bipush 12, 2) := by decide +kernel
theorem dX12_readLine_16 : decode cX12_readLine 16 = .ok (.if_icmp .ge 29, 3) := by decide +kernel
theorem dX12_readLine_19 : decode cX12_readLine 19 = .ok (.iload_n 1, 1) := by decide +kernel
theorem dX12_readLine_20 : decode cX12_readLine 20 = .ok (.ifCond .eq 13, 3) := by decide +kernel
theorem dX12_readLine_23 : decode cX12_readLine 23 = .ok (.aload_n 0, 1) := by decide +kernel
theorem dX12_readLine_24 : decode cX12_readLine 24 = .ok (.invokevirtual 236, 3) := by decide +kernel
theorem dX12_readLine_27 : decode cX12_readLine 27 = .ok (.ifCond .eq 18, 3) := by decide +kernel
theorem dX12_readLine_30 : decode cX12_readLine 30 = .ok (.goto 11, 3) := by decide +kernel
theorem dX12_readLine_33 : decode cX12_readLine 33 = .ok (.aload_n 0, 1) := by decide +kernel
theorem dX12_readLine_34 : decode cX12_readLine 34 = .ok (.iload_n 2, 1) := by decide +kernel
theorem dX12_readLine_35 : decode cX12_readLine 35 = .ok (.invokevirtual 239, 3) := by decide +kernel
theorem dX12_readLine_38 : decode cX12_readLine 38 = .ok (.ifCond .eq 7, 3) := by decide +kernel
theorem dX12_readLine_41 : decode cX12_readLine 41 = .ok (.iconst 1, 1) := by decide +kernel
theorem dX12_readLine_42 : decode cX12_readLine 42 = .ok (.goto 4, 3) := by decide +kernel
theorem dX12_readLine_45 : decode cX12_readLine 45 = .ok (.iconst 0, 1) := by decide +kernel
theorem dX12_readLine_46 : decode cX12_readLine 46 = .ok (.ireturn, 1) := by decide +kernel
theorem dX12_readAll_0 : decode cX12_readAll 0 = .ok (.aload_n 0, 1) := by decide +kernel
theorem dX12_readAll_1 : decode cX12_readAll 1 = .ok (.invokevirtual 242, 3) := by decide +kernel
theorem dX12_readAll_4 : decode cX12_readAll 4 = .ok (.aload_n 0, 1) := by decide +kernel
theorem dX12_readAll_5 : decode cX12_readAll 5 = .ok (.iconst 0, 1) := by decide +kernel
theorem dX12_readAll_6 : decode cX12_readAll 6 = .ok (.putfield 182, 3) := by decide +kernel
theorem dX12_readAll_9 : decode cX12_readAll 9 = .ok (.aload_n 0, 1) := by decide +kernel
theorem dX12_readAll_10 : decode cX12_readAll 10 = .ok (.invokevirtual 99, 3) := by decide +kernel
theorem dX12_readAll_13 : decode cX12_readAll 13 = .ok (.aload_n 0, 1) := by decide +kernel
theorem dX12_readAll_14 : decode cX12_readAll 14 = .ok (.getfield 86, 3) := by decide +kernel
theorem dX12_readAll_17 : decode cX12_readAll 17 = .ok (.aload_n 0, 1) := by decide +kernel
theorem dX12_readAll_18 : decode cX12_readAll 18 = .ok (.getfield 89, 3) := by decide +kernel
theorem dX12_readAll_21 : decode cX12_readAll 21 = .ok (.if_icmp .ne 5, 3) := by decide +kernel
theorem dX12_readAll_24 : decode cX12_readAll 24 = .ok (.iconst 0, 1) := by decide +kernel
theorem dX12_readAll_25 : decode cX12_readAll 25 = .ok (.ireturn, 1) := by decide +kernel
theorem dX12_readAll_26 : decode cX12_readAll 26 = .ok (.iconst 0, 1) := by decide +kernel
theorem dX12_readAll_27 : decode cX12_readAll 27 = .ok (.istore_n 2, 1) := by decide +kernel
theorem dX12_readAll_28 : decode cX12_readAll 28 = .ok (.aload_n 0, 1) := by decide +kernel
theorem dX12_readAll_29 : decode cX12_readAll 29 = .ok (.iload_n 1, 1) := by decide +kernel
theorem dX12_readAll_30 : decode cX12_readAll 30 = .ok (.iload_n 2, 1) := by decide +kernel
theorem dX12_readAll_31 : decode cX12_readAll 31 = .ok (.invokevirtual 245, 3) := by decide +kernel
theorem dX12_readAll_34 : decode cX12_readAll 34 = .ok (.ifCond .ne 5, 3) := by decide +kernel
theorem dX12_readAll_37 : decode cX12_readAll 37 = .ok (.iconst (-1), 1) := by decide +kernel
theorem dX12_readAll_38 : decode cX12_readAll 38 = .ok (.ireturn, 1) := by decide +kernel
theorem dX12_readAll_39 : decode cX12_readAll 39 = .ok (.aload_n 0, 1) := by decide +kernel
theorem dX12_readAll_40 : decode cX12_readAll 40 = .ok (.invokevirtual 99, 3) := by decide +kernel
theorem dX12_readAll_43 : decode cX12_readAll 43 = .ok (.aload_n 0, 1) := by decide +kernel
theorem dX12_readAll_44 : decode cX12_readAll 44 = .ok (.getfield 86, 3) := by decide +kernel
theorem dX12_readAll_47 : decode cX12_readAll 47 = .ok (.aload_n 0, 1) := by decide +kernel
theorem dX12_readAll_48 : decode cX12_readAll 48 = .ok (.getfield 89, 3) := by decide +kernel
theorem dX12_readAll_51 : decode cX12_readAll 51 = .ok (.if_icmp .ne 7, 3) := by decide +kernel
theorem dX12_readAll_54 : decode cX12_readAll 54 = .ok (.iload_n 2, 1) := by decide +kernel
theorem dX12_readAll_55 : decode cX12_readAll 55 = .ok (.iconst 1, 1) := by decide +kernel
theorem dX12_readAll_56 : decode cX12_readAll 56 = .ok (.iadd, 1) := by decide +kernel
theorem dX12_readAll_57 : decode cX12_readAll 57 = .ok (.ireturn, 1) := by decide +kernel
theorem dX12_readAll_58 : decode cX12_readAll 58 = .ok (.aload_n 0, 1) := by decide +kernel
theorem dX12_readAll_59 : decode cX12_readAll 59 = .ok (.bipush 59, 2) := by decide +kernel
theorem dX12_readAll_61 : decode cX12_readAll 61 = .ok (.bipush 59, 2) := by decide +kernel
theorem dX12_readAll_63 : decode cX12_readAll 63 = .ok (.invokevirtual 92, 3) := by decide +kernel
theorem dX12_readAll_66 : decode cX12_readAll 66 = .ok (.ifCond .ne 5, 3) := by decide +kernel
theorem dX12_readAll_69 : decode cX12_readAll 69 = .ok (.iconst (-1), 1) := by decide +kernel
theorem dX12_readAll_70 : decode cX12_readAll 70 = .ok (.ireturn, 1) := by decide +kernel
theorem dX12_readAll_71 : decode cX12_readAll 71 = .ok (.aload_n 0, 1) := by decide +kernel
theorem dX12_readAll_72 : decode cX12_readAll 72 = .ok (.dup, 1) := by decide +kernel
theorem dX12_readAll_73 : decode cX12_readAll 73 = .ok (.getfield 86, 3) := by decide +kernel
theorem dX12_readAll_76 : decode cX12_readAll 76 = .ok (.iconst 1, 1) := by decide +kernel
theorem dX12_readAll_77 : decode cX12_readAll 77 = .ok (.iadd, 1) := by decide +kernel
theorem dX12_readAll_78 : decode cX12_readAll 78 = .ok (.putfield 86, 3) := by decide +kernel
theorem dX12_readAll_81 : decode cX12_readAll 81 = .ok (.iinc 2 1, 3) := by decide +kernel
theorem dX12_readAll_84 : decode cX12_readAll 84 = .ok (.goto (-56), 3) := by decide +kernel
theorem dX12_bank_0 : decode cX12_bank 0 = .ok (.iconst 0, 1) := by decide +kernel
theorem dX12_bank_1 : decode cX12_bank 1 = .ok (.istore_n 1, 1) := by decide +kernel
theorem dX12_bank_2 : decode cX12_bank 2 = .ok (.iload_n 1, 1) := by decide +kernel
theorem dX12_bank_3 : decode cX12_bank 3 = .ok (.sipush 1269, 3) := by decide +kernel
theorem dX12_bank_6 : decode cX12_bank 6 = .ok (.if_icmp .ge 21, 3) := by decide +kernel
theorem dX12_bank_9 : decode cX12_bank 9 = .ok (.aload_n 0, 1) := by decide +kernel
theorem dX12_bank_10 : decode cX12_bank 10 = .ok (.getfield 20, 3) := by decide +kernel
theorem dX12_bank_13 : decode cX12_bank 13 = .ok (.iload_n 1, 1) := by decide +kernel
theorem dX12_bank_14 : decode cX12_bank 14 = .ok (.aload_n 0, 1) := by decide +kernel
theorem dX12_bank_15 : decode cX12_bank 15 = .ok (.getfield 13, 3) := by decide +kernel
theorem dX12_bank_18 : decode cX12_bank 18 = .ok (.iload_n 1, 1) := by decide +kernel
theorem dX12_bank_19 : decode cX12_bank 19 = .ok (.iaload, 1) := by decide +kernel
theorem dX12_bank_20 : decode cX12_bank 20 = .ok (.iastore, 1) := by decide +kernel
theorem dX12_bank_21 : decode cX12_bank 21 = .ok (.iinc 1 1, 3) := by decide +kernel
theorem dX12_bank_24 : decode cX12_bank 24 = .ok (.goto (-22), 3) := by decide +kernel
theorem dX12_bank_27 : decode cX12_bank 27 = .ok (.aload_n 0, 1) := by decide +kernel
theorem dX12_bank_28 : decode cX12_bank 28 = .ok (.iconst 1, 1) := by decide +kernel
theorem dX12_bank_29 : decode cX12_bank 29 = .ok (.invokevirtual 249, 3) := by decide +kernel
theorem dX12_bank_32 : decode cX12_bank 32 = .ok (.istore_n 1, 1) := by decide +kernel
theorem dX12_bank_33 : decode cX12_bank 33 = .ok (.aload_n 0, 1) := by decide +kernel
theorem dX12_bank_34 : decode cX12_bank 34 = .ok (.iload_n 1, 1) := by decide +kernel
theorem dX12_bank_35 : decode cX12_bank 35 = .ok (.ifCond .ge 10, 3) := by decide +kernel
theorem dX12_bank_38 : decode cX12_bank 38 = .ok (.aload_n 0, 1) := by decide +kernel
theorem dX12_bank_39 : decode cX12_bank 39 = .ok (.getfield 96, 3) := by decide +kernel
theorem dX12_bank_42 : decode cX12_bank 42 = .ok (.goto 4, 3) := by decide +kernel
theorem dX12_bank_45 : decode cX12_bank 45 = .ok (.iconst (-1), 1) := by decide +kernel
theorem dX12_bank_46 : decode cX12_bank 46 = .ok (.putfield 33, 3) := by decide +kernel
theorem dX12_bank_49 : decode cX12_bank 49 = .ok (.aload_n 0, 1) := by decide +kernel
theorem dX12_bank_50 : decode cX12_bank 50 = .ok (.iload_n 1, 1) := by decide +kernel
theorem dX12_bank_51 : decode cX12_bank 51 = .ok (.ifCond .ge 7, 3) := by decide +kernel
theorem dX12_bank_54 : decode cX12_bank 54 = .ok (.iconst 1, 1) := by decide +kernel
theorem dX12_bank_55 : decode cX12_bank 55 = .ok (.goto 4, 3) := by decide +kernel
theorem dX12_bank_58 : decode cX12_bank 58 = .ok (.iconst 0, 1) := by decide +kernel
theorem dX12_bank_59 : decode cX12_bank 59 = .ok (.iconst 1, 1) := by decide +kernel
theorem dX12_bank_60 : decode cX12_bank 60 = .ok (.invokevirtual 253, 3) := by decide +kernel
theorem dX12_bank_63 : decode cX12_bank 63 = .ok (.ifCond .ne 27, 3) := by decide +kernel
theorem dX12_bank_66 : decode cX12_bank 66 = .ok (.aload_n 0, 1) := by decide +kernel
theorem dX12_bank_67 : decode cX12_bank 67 = .ok (.aload_n 0, 1) := by decide +kernel
theorem dX12_bank_68 : decode cX12_bank 68 = .ok (.getfield 13, 3) := by decide +kernel
theorem dX12_bank_71 : decode cX12_bank 71 = .ok (.iconst 1, 1) := by decide +kernel
theorem dX12_bank_72 : decode cX12_bank 72 = .ok (.iaload, 1) := by decide +kernel
theorem dX12_bank_73 : decode cX12_bank 73 = .ok (.bipush 12, 2) := by decide +kernel
theorem dX12_bank_75 : decode cX12_bank 75 = .ok (.if_icmp .ne 7, 3) := by decide +kernel
theorem dX12_bank_78 : decode cX12_bank 78 = .ok (.iconst 1, 1) := by decide +kernel
theorem dX12_bank_79 : decode cX12_bank 79 = .ok (.goto 4, 3) := by decide +kernel
theorem dX12_bank_82 : decode cX12_bank 82 = .ok (.iconst 0, 1) := by decide +kernel
theorem dX12_bank_83 : decode cX12_bank 83 = .ok (.iconst 2, 1) := by decide +kernel
theorem dX12_bank_84 : decode cX12_bank 84 = .ok (.invokevirtual 253, 3) := by decide +kernel
theorem dX12_bank_87 : decode cX12_bank 87 = .ok (.ifCond .eq 32, 3) := by decide +kernel
theorem dX12_bank_90 : decode cX12_bank 90 = .ok (.iconst 0, 1) := by decide +kernel
theorem dX12_bank_91 : decode cX12_bank 91 = .ok (.istore_n 2, 1) := by decide +kernel
theorem dX12_bank_92 : decode cX12_bank 92 = .ok (.iload_n 2, 1) := by decide +kernel
theorem dX12_bank_93 : decode cX12_bank 93 = .ok (.sipush 1269, 3) := by decide +kernel
theorem dX12_bank_96 : decode cX12_bank 96 = .ok (.if_icmp .ge 21, 3) := by decide +kernel
theorem dX12_bank_99 : decode cX12_bank 99 = .ok (.aload_n 0, 1) := by decide +kernel
theorem dX12_bank_100 : decode cX12_bank 100 = .ok (.getfield 13, 3) := by decide +kernel
theorem dX12_bank_103 : decode cX12_bank 103 = .ok (.iload_n 2, 1) := by decide +kernel
theorem dX12_bank_104 : decode cX12_bank 104 = .ok (.aload_n 0, 1) := by decide +kernel
theorem dX12_bank_105 : decode cX12_bank 105 = .ok (.getfield 20, 3) := by decide +kernel
theorem dX12_bank_108 : decode cX12_bank 108 = .ok (.iload_n 2, 1) := by decide +kernel
theorem dX12_bank_109 : decode cX12_bank 109 = .ok (.iaload, 1) := by decide +kernel
theorem dX12_bank_110 : decode cX12_bank 110 = .ok (.iastore, 1) := by decide +kernel
theorem dX12_bank_111 : decode cX12_bank 111 = .ok (.iinc 2 1, 3) := by decide +kernel
theorem dX12_bank_114 : decode cX12_bank 114 = .ok (.goto (-22), 3) := by decide +kernel
theorem dX12_bank_117 : decode cX12_bank 117 = .ok (.iconst 0, 1) := by decide +kernel
theorem dX12_bank_118 : decode cX12_bank 118 = .ok (.ireturn, 1) := by decide +kernel
theorem dX12_bank_119 : decode cX12_bank 119 = .ok (.aload_n 0, 1) := by decide +kernel
theorem dX12_bank_120 : decode cX12_bank 120 = .ok (.getfield 13, 3) := by decide +kernel
theorem dX12_bank_123 : decode cX12_bank 123 = .ok (.iconst 1, 1) := by decide +kernel
theorem dX12_bank_124 : decode cX12_bank 124 = .ok (.dup2, 1) := by decide +kernel
theorem dX12_bank_125 : decode cX12_bank 125 = .ok (.iaload, 1) := by decide +kernel
theorem dX12_bank_126 : decode cX12_bank 126 = .ok (.iconst 1, 1) := by decide +kernel
theorem dX12_bank_127 : decode cX12_bank 127 = .ok (.iadd, 1) := by decide +kernel
theorem dX12_bank_128 : decode cX12_bank 128 = .ok (.iastore, 1) := by decide +kernel
theorem dX12_bank_129 : decode cX12_bank 129 = .ok (.aload_n 0, 1) := by decide +kernel
theorem dX12_bank_130 : decode cX12_bank 130 = .ok (.iconst 0, 1) := by decide +kernel
theorem dX12_bank_131 : decode cX12_bank 131 = .ok (.putfield 61, 3) := by decide +kernel
theorem dX12_bank_134 : decode cX12_bank 134 = .ok (.aload_n 0, 1) := by decide +kernel
theorem dX12_bank_135 : decode cX12_bank 135 = .ok (.getfield 13, 3) := by decide +kernel
theorem dX12_bank_138 : decode cX12_bank 138 = .ok (.iconst 1, 1) := by decide +kernel
theorem dX12_bank_139 : decode cX12_bank 139 = .ok (.iaload, 1) := by decide +kernel
theorem dX12_bank_140 : decode cX12_bank 140 = .ok (.ireturn, 1) := by decide +kernel
theorem dX12_law_0 : decode cX12_law 0 = .ok (.aload_n 0, 1) := by decide +kernel
theorem dX12_law_1 : decode cX12_law 1 = .ok (.iconst 0, 1) := by decide +kernel
theorem dX12_law_2 : decode cX12_law 2 = .ok (.invokevirtual 249, 3) := by decide +kernel
theorem dX12_law_5 : decode cX12_law 5 = .ok (.istore_n 1, 1) := by decide +kernel
theorem dX12_law_6 : decode cX12_law 6 = .ok (.aload_n 0, 1) := by decide +kernel
theorem dX12_law_7 : decode cX12_law 7 = .ok (.iload_n 1, 1) := by decide +kernel
theorem dX12_law_8 : decode cX12_law 8 = .ok (.ifCond .ge 10, 3) := by decide +kernel
theorem dX12_law_11 : decode cX12_law 11 = .ok (.aload_n 0, 1) := by decide +kernel
theorem dX12_law_12 : decode cX12_law 12 = .ok (.getfield 96, 3) := by decide +kernel
theorem dX12_law_15 : decode cX12_law 15 = .ok (.goto 4, 3) := by decide +kernel
theorem dX12_law_18 : decode cX12_law 18 = .ok (.iconst (-1), 1) := by decide +kernel
theorem dX12_law_19 : decode cX12_law 19 = .ok (.putfield 33, 3) := by decide +kernel
theorem dX12_law_22 : decode cX12_law 22 = .ok (.aload_n 0, 1) := by decide +kernel
theorem dX12_law_23 : decode cX12_law 23 = .ok (.iload_n 1, 1) := by decide +kernel
theorem dX12_law_24 : decode cX12_law 24 = .ok (.ifCond .ge 7, 3) := by decide +kernel
theorem dX12_law_27 : decode cX12_law 27 = .ok (.iconst 1, 1) := by decide +kernel
theorem dX12_law_28 : decode cX12_law 28 = .ok (.goto 4, 3) := by decide +kernel
theorem dX12_law_31 : decode cX12_law 31 = .ok (.iconst 0, 1) := by decide +kernel
theorem dX12_law_32 : decode cX12_law 32 = .ok (.iconst 1, 1) := by decide +kernel
theorem dX12_law_33 : decode cX12_law 33 = .ok (.invokevirtual 253, 3) := by decide +kernel
theorem dX12_law_36 : decode cX12_law 36 = .ok (.ifCond .eq 5, 3) := by decide +kernel
theorem dX12_law_39 : decode cX12_law 39 = .ok (.iconst 0, 1) := by decide +kernel
theorem dX12_law_40 : decode cX12_law 40 = .ok (.ireturn, 1) := by decide +kernel
theorem dX12_law_41 : decode cX12_law 41 = .ok (.aload_n 0, 1) := by decide +kernel
theorem dX12_law_42 : decode cX12_law 42 = .ok (.getfield 13, 3) := by decide +kernel
theorem dX12_law_45 : decode cX12_law 45 = .ok (.sipush 1269, 3) := by decide +kernel
theorem dX12_law_48 : decode cX12_law 48 = .ok (.iload_n 1, 1) := by decide +kernel
theorem dX12_law_49 : decode cX12_law 49 = .ok (.iastore, 1) := by decide +kernel
theorem dX12_law_50 : decode cX12_law 50 = .ok (.iconst 0, 1) := by decide +kernel
theorem dX12_law_51 : decode cX12_law 51 = .ok (.istore_n 2, 1) := by decide +kernel
theorem dX12_law_52 : decode cX12_law 52 = .ok (.iload_n 2, 1) := by decide +kernel
theorem dX12_law_53 : decode cX12_law 53 = .ok (.sipush 849, 3) := by decide +kernel
theorem dX12_law_56 : decode cX12_law 56 = .ok (.if_icmp .ge 29, 3) := by decide +kernel
theorem dX12_law_59 : decode cX12_law 59 = .ok (.aload_n 0, 1) := by decide +kernel
theorem dX12_law_60 : decode cX12_law 60 = .ok (.getfield 13, 3) := by decide +kernel
theorem dX12_law_63 : decode cX12_law 63 = .ok (.sipush 420, 3) := by decide +kernel
theorem dX12_law_66 : decode cX12_law 66 = .ok (.iload_n 2, 1) := by decide +kernel
theorem dX12_law_67 : decode cX12_law 67 = .ok (.iadd, 1) := by decide +kernel
theorem dX12_law_68 : decode cX12_law 68 = .ok (.aload_n 0, 1) := by decide +kernel
theorem dX12_law_69 : decode cX12_law 69 = .ok (.getfield 13, 3) := by decide +kernel
theorem dX12_law_72 : decode cX12_law 72 = .ok (.sipush 1269, 3) := by decide +kernel
theorem dX12_law_75 : decode cX12_law 75 = .ok (.iload_n 2, 1) := by decide +kernel
theorem dX12_law_76 : decode cX12_law 76 = .ok (.iadd, 1) := by decide +kernel
theorem dX12_law_77 : decode cX12_law 77 = .ok (.iaload, 1) := by decide +kernel
theorem dX12_law_78 : decode cX12_law 78 = .ok (.iastore, 1) := by decide +kernel
theorem dX12_law_79 : decode cX12_law 79 = .ok (.iinc 2 1, 3) := by decide +kernel
theorem dX12_law_82 : decode cX12_law 82 = .ok (.goto (-30), 3) := by decide +kernel
theorem dX12_law_85 : decode cX12_law 85 = .ok (.aload_n 0, 1) := by decide +kernel
theorem dX12_law_86 : decode cX12_law 86 = .ok (.getfield 13, 3) := by decide +kernel
theorem dX12_law_89 : decode cX12_law 89 = .ok (.iconst 2, 1) := by decide +kernel
theorem dX12_law_90 : decode cX12_law 90 = .ok (.iconst 1, 1) := by decide +kernel
theorem dX12_law_91 : decode cX12_law 91 = .ok (.iastore, 1) := by decide +kernel
theorem dX12_law_92 : decode cX12_law 92 = .ok (.aload_n 0, 1) := by decide +kernel
theorem dX12_law_93 : decode cX12_law 93 = .ok (.iconst 0, 1) := by decide +kernel
theorem dX12_law_94 : decode cX12_law 94 = .ok (.putfield 61, 3) := by decide +kernel
theorem dX12_law_97 : decode cX12_law 97 = .ok (.iload_n 1, 1) := by decide +kernel
theorem dX12_law_98 : decode cX12_law 98 = .ok (.ireturn, 1) := by decide +kernel
theorem dX12_factOf_0 : decode cX12_factOf 0 = .ok (.iload_n 1, 1) := by decide +kernel
theorem dX12_factOf_1 : decode cX12_factOf 1 = .ok (.tableswitch 104 0 6 #[43, 45, 50, 57, 64, 71, 84], 43) := by decide +kernel
theorem dX12_factOf_44 : decode cX12_factOf 44 = .ok (.iload_n 3, 1) := by decide +kernel
theorem dX12_factOf_45 : decode cX12_factOf 45 = .ok (.ireturn, 1) := by decide +kernel
theorem dX12_factOf_46 : decode cX12_factOf 46 = .ok (.aload_n 0, 1) := by decide +kernel
theorem dX12_factOf_47 : decode cX12_factOf 47 = .ok (.getfield 256, 3) := by decide +kernel
theorem dX12_factOf_50 : decode cX12_factOf 50 = .ok (.ireturn, 1) := by decide +kernel
theorem dX12_factOf_51 : decode cX12_factOf 51 = .ok (.aload_n 0, 1) := by decide +kernel
theorem dX12_factOf_52 : decode cX12_factOf 52 = .ok (.iload_n 3, 1) := by decide +kernel
theorem dX12_factOf_53 : decode cX12_factOf 53 = .ok (.iconst 1, 1) := by decide +kernel
theorem dX12_factOf_54 : decode cX12_factOf 54 = .ok (.invokevirtual 68, 3) := by decide +kernel
theorem dX12_factOf_57 : decode cX12_factOf 57 = .ok (.ireturn, 1) := by decide +kernel
theorem dX12_factOf_58 : decode cX12_factOf 58 = .ok (.aload_n 0, 1) := by decide +kernel
theorem dX12_factOf_59 : decode cX12_factOf 59 = .ok (.iload_n 3, 1) := by decide +kernel
theorem dX12_factOf_60 : decode cX12_factOf 60 = .ok (.iconst 0, 1) := by decide +kernel
theorem dX12_factOf_61 : decode cX12_factOf 61 = .ok (.invokevirtual 68, 3) := by decide +kernel
theorem dX12_factOf_64 : decode cX12_factOf 64 = .ok (.ireturn, 1) := by decide +kernel
theorem dX12_factOf_65 : decode cX12_factOf 65 = .ok (.aload_n 0, 1) := by decide +kernel
theorem dX12_factOf_66 : decode cX12_factOf 66 = .ok (.getfield 13, 3) := by decide +kernel
theorem dX12_factOf_69 : decode cX12_factOf 69 = .ok (.iconst 3, 1) := by decide +kernel
theorem dX12_factOf_70 : decode cX12_factOf 70 = .ok (.iaload, 1) := by decide +kernel
theorem dX12_factOf_71 : decode cX12_factOf 71 = .ok (.ireturn, 1) := by decide +kernel
theorem dX12_factOf_72 : decode cX12_factOf 72 = .ok (.aload_n 0, 1) := by decide +kernel
theorem dX12_factOf_73 : decode cX12_factOf 73 = .ok (.getfield 259, 3) := by decide +kernel
theorem dX12_factOf_76 : decode cX12_factOf 76 = .ok (.ifCond .eq 7, 3) := by decide +kernel
theorem dX12_factOf_79 : decode cX12_factOf 79 = .ok (.iconst 1, 1) := by decide +kernel
theorem dX12_factOf_80 : decode cX12_factOf 80 = .ok (.goto 4, 3) := by decide +kernel
theorem dX12_factOf_83 : decode cX12_factOf 83 = .ok (.iconst 0, 1) := by decide +kernel
theorem dX12_factOf_84 : decode cX12_factOf 84 = .ok (.ireturn, 1) := by decide +kernel
theorem dX12_factOf_85 : decode cX12_factOf 85 = .ok (.aload_n 0, 1) := by decide +kernel
theorem dX12_factOf_86 : decode cX12_factOf 86 = .ok (.getfield 13, 3) := by decide +kernel
theorem dX12_factOf_89 : decode cX12_factOf 89 = .ok (.iconst 3, 1) := by decide +kernel
theorem dX12_factOf_90 : decode cX12_factOf 90 = .ok (.iaload, 1) := by decide +kernel
theorem dX12_factOf_91 : decode cX12_factOf 91 = .ok (.bipush 7, 2) := by decide +kernel
theorem dX12_factOf_93 : decode cX12_factOf 93 = .ok (.irem, 1) := by decide +kernel
theorem dX12_factOf_94 : decode cX12_factOf 94 = .ok (.bipush 6, 2) := by decide +kernel
theorem dX12_factOf_96 : decode cX12_factOf 96 = .ok (.if_icmp .ne 7, 3) := by decide +kernel
theorem dX12_factOf_99 : decode cX12_factOf 99 = .ok (.iconst 1, 1) := by decide +kernel
theorem dX12_factOf_100 : decode cX12_factOf 100 = .ok (.goto 4, 3) := by decide +kernel
theorem dX12_factOf_103 : decode cX12_factOf 103 = .ok (.iconst 0, 1) := by decide +kernel
theorem dX12_factOf_104 : decode cX12_factOf 104 = .ok (.ireturn, 1) := by decide +kernel
theorem dX12_factOf_105 : decode cX12_factOf 105 = .ok (.iload_n 2, 1) := by decide +kernel
theorem dX12_factOf_106 : decode cX12_factOf 106 = .ok (.ireturn, 1) := by decide +kernel
theorem dX12_holdsLine_0 : decode cX12_holdsLine 0 = .ok (.iconst 0, 1) := by decide +kernel
theorem dX12_holdsLine_1 : decode cX12_holdsLine 1 = .ok (.istore_n 3, 1) := by decide +kernel
theorem dX12_holdsLine_2 : decode cX12_holdsLine 2 = .ok (.sipush 421, 3) := by decide +kernel
theorem dX12_holdsLine_5 : decode cX12_holdsLine 5 = .ok (.iconst 4, 1) := by decide +kernel
theorem dX12_holdsLine_6 : decode cX12_holdsLine 6 = .ok (.iload_n 1, 1) := by decide +kernel
theorem dX12_holdsLine_7 : decode cX12_holdsLine 7 = .ok (.imul, 1) := by decide +kernel
theorem dX12_holdsLine_8 : decode cX12_holdsLine 8 = .ok (.iadd, 1) := by decide +kernel
theorem dX12_holdsLine_9 : decode cX12_holdsLine 9 = .ok (.istore 4, 2) := by decide +kernel
theorem dX12_holdsLine_11 : decode cX12_holdsLine 11 = .ok (.aload_n 0, 1) := by decide +kernel
theorem dX12_holdsLine_12 : decode cX12_holdsLine 12 = .ok (.getfield 13, 3) := by decide +kernel
theorem dX12_holdsLine_15 : decode cX12_holdsLine 15 = .ok (.iload 4, 2) := by decide +kernel
theorem dX12_holdsLine_17 : decode cX12_holdsLine 17 = .ok (.iconst 2, 1) := by decide +kernel
theorem dX12_holdsLine_18 : decode cX12_holdsLine 18 = .ok (.iadd, 1) := by decide +kernel
theorem dX12_holdsLine_19 : decode cX12_holdsLine 19 = .ok (.iaload, 1) := by decide +kernel
theorem dX12_holdsLine_20 : decode cX12_holdsLine 20 = .ok (.istore 5, 2) := by decide +kernel
theorem dX12_holdsLine_22 : decode cX12_holdsLine 22 = .ok (.iload 5, 2) := by decide +kernel
theorem dX12_holdsLine_24 : decode cX12_holdsLine 24 = .ok (.aload_n 0, 1) := by decide +kernel
theorem dX12_holdsLine_25 : decode cX12_holdsLine 25 = .ok (.getfield 13, 3) := by decide +kernel
theorem dX12_holdsLine_28 : decode cX12_holdsLine 28 = .ok (.iload 4, 2) := by decide +kernel
theorem dX12_holdsLine_30 : decode cX12_holdsLine 30 = .ok (.iconst 3, 1) := by decide +kernel
theorem dX12_holdsLine_31 : decode cX12_holdsLine 31 = .ok (.iadd, 1) := by decide +kernel
theorem dX12_holdsLine_32 : decode cX12_holdsLine 32 = .ok (.iaload, 1) := by decide +kernel
theorem dX12_holdsLine_33 : decode cX12_holdsLine 33 = .ok (.if_icmp .ge 230, 3) := by decide +kernel
theorem dX12_holdsLine_36 : decode cX12_holdsLine 36 = .ok (.aload_n 0, 1) := by decide +kernel
theorem dX12_holdsLine_37 : decode cX12_holdsLine 37 = .ok (.getfield 13, 3) := by decide +kernel
theorem dX12_holdsLine_40 : decode cX12_holdsLine 40 = .ok (.sipush 469, 3) := by decide +kernel
theorem dX12_holdsLine_43 : decode cX12_holdsLine 43 = .ok (.iconst 2, 1) := by decide +kernel
theorem dX12_holdsLine_44 : decode cX12_holdsLine 44 = .ok (.iload 5, 2) := by decide +kernel
theorem dX12_holdsLine_46 : decode cX12_holdsLine 46 = .ok (.imul, 1) := by decide +kernel
theorem dX12_holdsLine_47 : decode cX12_holdsLine 47 = .ok (.iadd, 1) := by decide +kernel
theorem dX12_holdsLine_48 : decode cX12_holdsLine 48 = .ok (.iaload, 1) := by decide +kernel
theorem dX12_holdsLine_49 : decode cX12_holdsLine 49 = .ok (.istore 6, 2) := by decide +kernel
theorem dX12_holdsLine_51 : decode cX12_holdsLine 51 = .ok (.iload 6, 2) := by decide +kernel
theorem dX12_holdsLine_53 : decode cX12_holdsLine 53 = .ok (.bipush 7, 2) := by decide +kernel
theorem dX12_holdsLine_55 : decode cX12_holdsLine 55 = .ok (.if_icmp .gt 37, 3) := by decide +kernel
theorem dX12_holdsLine_58 : decode cX12_holdsLine 58 = .ok (.aload_n 0, 1) := by decide +kernel
theorem dX12_holdsLine_59 : decode cX12_holdsLine 59 = .ok (.getfield 39, 3) := by decide +kernel
theorem dX12_holdsLine_62 : decode cX12_holdsLine 62 = .ok (.iload_n 3, 1) := by decide +kernel
theorem dX12_holdsLine_63 : decode cX12_holdsLine 63 = .ok (.aload_n 0, 1) := by decide +kernel
theorem dX12_holdsLine_64 : decode cX12_holdsLine 64 = .ok (.iload 6, 2) := by decide +kernel
theorem dX12_holdsLine_66 : decode cX12_holdsLine 66 = .ok (.aload_n 0, 1) := by decide +kernel
theorem dX12_holdsLine_67 : decode cX12_holdsLine 67 = .ok (.getfield 13, 3) := by decide +kernel
theorem dX12_holdsLine_70 : decode cX12_holdsLine 70 = .ok (.sipush 469, 3) := by decide +kernel
theorem dX12_holdsLine_73 : decode cX12_holdsLine 73 = .ok (.iconst 2, 1) := by decide +kernel
theorem dX12_holdsLine_74 : decode cX12_holdsLine 74 = .ok (.iload 5, 2) := by decide +kernel
theorem dX12_holdsLine_76 : decode cX12_holdsLine 76 = .ok (.imul, 1) := by decide +kernel
theorem dX12_holdsLine_77 : decode cX12_holdsLine 77 = .ok (.iadd, 1) := by decide +kernel
theorem dX12_holdsLine_78 : decode cX12_holdsLine 78 = .ok (.iconst 1, 1) := by decide +kernel
theorem dX12_holdsLine_79 : decode cX12_holdsLine 79 = .ok (.iadd, 1) := by decide +kernel
theorem dX12_holdsLine_80 : decode cX12_holdsLine 80 = .ok (.iaload, 1) := by decide +kernel
theorem dX12_holdsLine_81 : decode cX12_holdsLine 81 = .ok (.iload_n 2, 1) := by decide +kernel
theorem dX12_holdsLine_82 : decode cX12_holdsLine 82 = .ok (.invokevirtual 262, 3) := by decide +kernel
theorem dX12_holdsLine_85 : decode cX12_holdsLine 85 = .ok (.iastore, 1) := by decide +kernel
theorem dX12_holdsLine_86 : decode cX12_holdsLine 86 = .ok (.iinc 3 1, 3) := by decide +kernel
theorem dX12_holdsLine_89 : decode cX12_holdsLine 89 = .ok (.goto 168, 3) := by decide +kernel
theorem dX12_holdsLine_92 : decode cX12_holdsLine 92 = .ok (.iload 6, 2) := by decide +kernel
theorem dX12_holdsLine_94 : decode cX12_holdsLine 94 = .ok (.bipush 11, 2) := by decide +kernel
theorem dX12_holdsLine_96 : decode cX12_holdsLine 96 = .ok (.if_icmp .ne 24, 3) := by decide +kernel
theorem dX12_holdsLine_99 : decode cX12_holdsLine 99 = .ok (.aload_n 0, 1) := by decide +kernel
theorem dX12_holdsLine_100 : decode cX12_holdsLine 100 = .ok (.getfield 39, 3) := by decide +kernel
theorem dX12_holdsLine_103 : decode cX12_holdsLine 103 = .ok (.iload_n 3, 1) := by decide +kernel
theorem dX12_holdsLine_104 : decode cX12_holdsLine 104 = .ok (.iconst 1, 1) := by decide +kernel
theorem dX12_holdsLine_105 : decode cX12_holdsLine 105 = .ok (.isub, 1) := by decide +kernel
theorem dX12_holdsLine_106 : decode cX12_holdsLine 106 = .ok (.iconst 1, 1) := by decide +kernel
theorem dX12_holdsLine_107 : decode cX12_holdsLine 107 = .ok (.aload_n 0, 1) := by decide +kernel
theorem dX12_holdsLine_108 : decode cX12_holdsLine 108 = .ok (.getfield 39, 3) := by decide +kernel
theorem dX12_holdsLine_111 : decode cX12_holdsLine 111 = .ok (.iload_n 3, 1) := by decide +kernel
theorem dX12_holdsLine_112 : decode cX12_holdsLine 112 = .ok (.iconst 1, 1) := by decide +kernel
theorem dX12_holdsLine_113 : decode cX12_holdsLine 113 = .ok (.isub, 1) := by decide +kernel
theorem dX12_holdsLine_114 : decode cX12_holdsLine 114 = .ok (.iaload, 1) := by decide +kernel
theorem dX12_holdsLine_115 : decode cX12_holdsLine 115 = .ok (.isub, 1) := by decide +kernel
theorem dX12_holdsLine_116 : decode cX12_holdsLine 116 = .ok (.iastore, 1) := by decide +kernel
theorem dX12_holdsLine_117 : decode cX12_holdsLine 117 = .ok (.goto 140, 3) := by decide +kernel
theorem dX12_holdsLine_120 : decode cX12_holdsLine 120 = .ok (.iinc 3 (-1), 3) := by decide +kernel
theorem dX12_holdsLine_123 : decode cX12_holdsLine 123 = .ok (.aload_n 0, 1) := by decide +kernel
theorem dX12_holdsLine_124 : decode cX12_holdsLine 124 = .ok (.getfield 39, 3) := by decide +kernel
theorem dX12_holdsLine_127 : decode cX12_holdsLine 127 = .ok (.iload_n 3, 1) := by decide +kernel
theorem dX12_holdsLine_128 : decode cX12_holdsLine 128 = .ok (.iconst 1, 1) := by decide +kernel
theorem dX12_holdsLine_129 : decode cX12_holdsLine 129 = .ok (.isub, 1) := by decide +kernel
theorem dX12_holdsLine_130 : decode cX12_holdsLine 130 = .ok (.iaload, 1) := by decide +kernel
theorem dX12_holdsLine_131 : decode cX12_holdsLine 131 = .ok (.istore 7, 2) := by decide +kernel
theorem dX12_holdsLine_133 : decode cX12_holdsLine 133 = .ok (.aload_n 0, 1) := by decide +kernel
theorem dX12_holdsLine_134 : decode cX12_holdsLine 134 = .ok (.getfield 39, 3) := by decide +kernel
theorem dX12_holdsLine_137 : decode cX12_holdsLine 137 = .ok (.iload_n 3, 1) := by decide +kernel
theorem dX12_holdsLine_138 : decode cX12_holdsLine 138 = .ok (.iaload, 1) := by decide +kernel
theorem dX12_holdsLine_139 : decode cX12_holdsLine 139 = .ok (.istore 8, 2) := by decide +kernel
theorem dX12_holdsLine_141 : decode cX12_holdsLine 141 = .ok (.iload 6, 2) := by decide +kernel
theorem dX12_holdsLine_143 : decode cX12_holdsLine 143 = .ok (.bipush 9, 2) := by decide +kernel
theorem dX12_holdsLine_145 : decode cX12_holdsLine 145 = .ok (.if_icmp .ne 18, 3) := by decide +kernel
theorem dX12_holdsLine_148 : decode cX12_holdsLine 148 = .ok (.iload 7, 2) := by decide +kernel
theorem dX12_holdsLine_150 : decode cX12_holdsLine 150 = .ok (.iload 8, 2) := by decide +kernel
theorem dX12_holdsLine_152 : decode cX12_holdsLine 152 = .ok (.if_icmp .ge 7, 3) := by decide +kernel
theorem dX12_holdsLine_155 : decode cX12_holdsLine 155 = .ok (.iconst 1, 1) := by decide +kernel
theorem dX12_holdsLine_156 : decode cX12_holdsLine 156 = .ok (.goto 66, 3) := by decide +kernel
theorem dX12_holdsLine_159 : decode cX12_holdsLine 159 = .ok (.iconst 0, 1) := by decide +kernel
theorem dX12_holdsLine_160 : decode cX12_holdsLine 160 = .ok (.goto 62, 3) := by decide +kernel
theorem dX12_holdsLine_163 : decode cX12_holdsLine 163 = .ok (.iload 6, 2) := by decide +kernel
theorem dX12_holdsLine_165 : decode cX12_holdsLine 165 = .ok (.bipush 10, 2) := by decide +kernel
theorem dX12_holdsLine_167 : decode cX12_holdsLine 167 = .ok (.if_icmp .ne 18, 3) := by decide +kernel
theorem dX12_holdsLine_170 : decode cX12_holdsLine 170 = .ok (.iload 7, 2) := by decide +kernel
theorem dX12_holdsLine_172 : decode cX12_holdsLine 172 = .ok (.iload 8, 2) := by decide +kernel
theorem dX12_holdsLine_174 : decode cX12_holdsLine 174 = .ok (.if_icmp .le 7, 3) := by decide +kernel
theorem dX12_holdsLine_177 : decode cX12_holdsLine 177 = .ok (.iconst 1, 1) := by decide +kernel
theorem dX12_holdsLine_178 : decode cX12_holdsLine 178 = .ok (.goto 44, 3) := by decide +kernel
theorem dX12_holdsLine_181 : decode cX12_holdsLine 181 = .ok (.iconst 0, 1) := by decide +kernel
theorem dX12_holdsLine_182 : decode cX12_holdsLine 182 = .ok (.goto 40, 3) := by decide +kernel
theorem dX12_holdsLine_185 : decode cX12_holdsLine 185 = .ok (.iload 6, 2) := by decide +kernel
theorem dX12_holdsLine_187 : decode cX12_holdsLine 187 = .ok (.bipush 12, 2) := by decide +kernel
theorem dX12_holdsLine_189 : decode cX12_holdsLine 189 = .ok (.if_icmp .ne 20, 3) := by decide +kernel
theorem dX12_holdsLine_192 : decode cX12_holdsLine 192 = .ok (.iload 7, 2) := by decide +kernel
theorem dX12_holdsLine_194 : decode cX12_holdsLine 194 = .ok (.iload 8, 2) := by decide +kernel
theorem dX12_holdsLine_196 : decode cX12_holdsLine 196 = .ok (.iadd, 1) := by decide +kernel
theorem dX12_holdsLine_197 : decode cX12_holdsLine 197 = .ok (.iconst 2, 1) := by decide +kernel
theorem dX12_holdsLine_198 : decode cX12_holdsLine 198 = .ok (.if_icmp .ne 7, 3) := by decide +kernel
theorem dX12_holdsLine_201 : decode cX12_holdsLine 201 = .ok (.iconst 1, 1) := by decide +kernel
theorem dX12_holdsLine_202 : decode cX12_holdsLine 202 = .ok (.goto 20, 3) := by decide +kernel
theorem dX12_holdsLine_205 : decode cX12_holdsLine 205 = .ok (.iconst 0, 1) := by decide +kernel
theorem dX12_holdsLine_206 : decode cX12_holdsLine 206 = .ok (.goto 16, 3) := by decide +kernel
theorem dX12_holdsLine_209 : decode cX12_holdsLine 209 = .ok (.iload 7, 2) := by decide +kernel
theorem dX12_holdsLine_211 : decode cX12_holdsLine 211 = .ok (.iload 8, 2) := by decide +kernel
theorem dX12_holdsLine_213 : decode cX12_holdsLine 213 = .ok (.iadd, 1) := by decide +kernel
theorem dX12_holdsLine_214 : decode cX12_holdsLine 214 = .ok (.ifCond .le 7, 3) := by decide +kernel
theorem dX12_holdsLine_217 : decode cX12_holdsLine 217 = .ok (.iconst 1, 1) := by decide +kernel
theorem dX12_holdsLine_218 : decode cX12_holdsLine 218 = .ok (.goto 4, 3) := by decide +kernel
theorem dX12_holdsLine_221 : decode cX12_holdsLine 221 = .ok (.iconst 0, 1) := by decide +kernel
theorem dX12_holdsLine_222 : decode cX12_holdsLine 222 = .ok (.istore 9, 2) := by decide +kernel
theorem dX12_holdsLine_224 : decode cX12_holdsLine 224 = .ok (.aload_n 0, 1) := by decide +kernel
theorem dX12_holdsLine_225 : decode cX12_holdsLine 225 = .ok (.getfield 39, 3) := by decide +kernel
theorem dX12_holdsLine_228 : decode cX12_holdsLine 228 = .ok (.iload_n 3, 1) := by decide +kernel
theorem dX12_holdsLine_229 : decode cX12_holdsLine 229 = .ok (.iconst 1, 1) := by decide +kernel
theorem dX12_holdsLine_230 : decode cX12_holdsLine 230 = .ok (.isub, 1) := by decide +kernel
theorem dX12_holdsLine_231 : decode cX12_holdsLine 231 = .ok (.iload 6, 2) := by decide +kernel
theorem dX12_holdsLine_233 : decode cX12_holdsLine 233 = .ok (.bipush 8, 2) := by decide +kernel
theorem dX12_holdsLine_235 : decode cX12_holdsLine 235 = .ok (.if_icmp .ne 11, 3) := by decide +kernel
theorem dX12_holdsLine_238 : decode cX12_holdsLine 238 = .ok (.iload 7, 2) := by decide +kernel
theorem dX12_holdsLine_240 : decode cX12_holdsLine 240 = .ok (.iload 8, 2) := by decide +kernel
theorem dX12_holdsLine_242 : decode cX12_holdsLine 242 = .ok (.iadd, 1) := by decide +kernel
theorem dX12_holdsLine_243 : decode cX12_holdsLine 243 = .ok (.goto 13, 3) := by decide +kernel
theorem dX12_holdsLine_246 : decode cX12_holdsLine 246 = .ok (.iload 9, 2) := by decide +kernel
theorem dX12_holdsLine_248 : decode cX12_holdsLine 248 = .ok (.ifCond .eq 7, 3) := by decide +kernel
theorem dX12_holdsLine_251 : decode cX12_holdsLine 251 = .ok (.iconst 1, 1) := by decide +kernel
theorem dX12_holdsLine_252 : decode cX12_holdsLine 252 = .ok (.goto 4, 3) := by decide +kernel
theorem dX12_holdsLine_255 : decode cX12_holdsLine 255 = .ok (.iconst 0, 1) := by decide +kernel
theorem dX12_holdsLine_256 : decode cX12_holdsLine 256 = .ok (.iastore, 1) := by decide +kernel
theorem dX12_holdsLine_257 : decode cX12_holdsLine 257 = .ok (.iinc 5 1, 3) := by decide +kernel
theorem dX12_holdsLine_260 : decode cX12_holdsLine 260 = .ok (.goto (-238), 3) := by decide +kernel
theorem dX12_holdsLine_263 : decode cX12_holdsLine 263 = .ok (.iload_n 3, 1) := by decide +kernel
theorem dX12_holdsLine_264 : decode cX12_holdsLine 264 = .ok (.ifCond .eq 13, 3) := by decide +kernel
theorem dX12_holdsLine_267 : decode cX12_holdsLine 267 = .ok (.aload_n 0, 1) := by decide +kernel
theorem dX12_holdsLine_268 : decode cX12_holdsLine 268 = .ok (.getfield 39, 3) := by decide +kernel
theorem dX12_holdsLine_271 : decode cX12_holdsLine 271 = .ok (.iconst 0, 1) := by decide +kernel
theorem dX12_holdsLine_272 : decode cX12_holdsLine 272 = .ok (.iaload, 1) := by decide +kernel
theorem dX12_holdsLine_273 : decode cX12_holdsLine 273 = .ok (.iconst 1, 1) := by decide +kernel
theorem dX12_holdsLine_274 : decode cX12_holdsLine 274 = .ok (.if_icmp .ne 7, 3) := by decide +kernel
theorem dX12_holdsLine_277 : decode cX12_holdsLine 277 = .ok (.iconst 1, 1) := by decide +kernel
theorem dX12_holdsLine_278 : decode cX12_holdsLine 278 = .ok (.goto 4, 3) := by decide +kernel
theorem dX12_holdsLine_281 : decode cX12_holdsLine 281 = .ok (.iconst 0, 1) := by decide +kernel
theorem dX12_holdsLine_282 : decode cX12_holdsLine 282 = .ok (.ireturn, 1) := by decide +kernel
theorem dX12_sumOf_0 : decode cX12_sumOf 0 = .ok (.iconst 0, 1) := by decide +kernel
theorem dX12_sumOf_1 : decode cX12_sumOf 1 = .ok (.istore_n 3, 1) := by decide +kernel
theorem dX12_sumOf_2 : decode cX12_sumOf 2 = .ok (.iconst 0, 1) := by decide +kernel
theorem dX12_sumOf_3 : decode cX12_sumOf 3 = .ok (.istore 4, 2) := by decide +kernel
theorem dX12_sumOf_5 : decode cX12_sumOf 5 = .ok (.iload 4, 2) := by decide +kernel
theorem dX12_sumOf_7 : decode cX12_sumOf 7 = .ok (.aload_n 0, 1) := by decide +kernel
theorem dX12_sumOf_8 : decode cX12_sumOf 8 = .ok (.getfield 13, 3) := by decide +kernel
theorem dX12_sumOf_11 : decode cX12_sumOf 11 = .ok (.sipush 420, 3) := by decide +kernel
theorem dX12_sumOf_14 : decode cX12_sumOf 14 = .ok (.iaload, 1) := by decide +kernel
theorem dX12_sumOf_15 : decode cX12_sumOf 15 = .ok (.if_icmp .ge 62, 3) := by decide +kernel
theorem dX12_sumOf_18 : decode cX12_sumOf 18 = .ok (.aload_n 0, 1) := by decide +kernel
theorem dX12_sumOf_19 : decode cX12_sumOf 19 = .ok (.getfield 13, 3) := by decide +kernel
theorem dX12_sumOf_22 : decode cX12_sumOf 22 = .ok (.sipush 421, 3) := by decide +kernel
theorem dX12_sumOf_25 : decode cX12_sumOf 25 = .ok (.iconst 4, 1) := by decide +kernel
theorem dX12_sumOf_26 : decode cX12_sumOf 26 = .ok (.iload 4, 2) := by decide +kernel
theorem dX12_sumOf_28 : decode cX12_sumOf 28 = .ok (.imul, 1) := by decide +kernel
theorem dX12_sumOf_29 : decode cX12_sumOf 29 = .ok (.iadd, 1) := by decide +kernel
theorem dX12_sumOf_30 : decode cX12_sumOf 30 = .ok (.iaload, 1) := by decide +kernel
theorem dX12_sumOf_31 : decode cX12_sumOf 31 = .ok (.iload_n 1, 1) := by decide +kernel
theorem dX12_sumOf_32 : decode cX12_sumOf 32 = .ok (.ifCond .eq 7, 3) := by decide +kernel
theorem dX12_sumOf_35 : decode cX12_sumOf 35 = .ok (.iconst 1, 1) := by decide +kernel
theorem dX12_sumOf_36 : decode cX12_sumOf 36 = .ok (.goto 4, 3) := by decide +kernel
theorem dX12_sumOf_39 : decode cX12_sumOf 39 = .ok (.iconst 0, 1) := by decide +kernel
theorem dX12_sumOf_40 : decode cX12_sumOf 40 = .ok (.if_icmp .ne 31, 3) := by decide +kernel
theorem dX12_sumOf_43 : decode cX12_sumOf 43 = .ok (.aload_n 0, 1) := by decide +kernel
theorem dX12_sumOf_44 : decode cX12_sumOf 44 = .ok (.iload 4, 2) := by decide +kernel
theorem dX12_sumOf_46 : decode cX12_sumOf 46 = .ok (.iload_n 2, 1) := by decide +kernel
theorem dX12_sumOf_47 : decode cX12_sumOf 47 = .ok (.invokevirtual 265, 3) := by decide +kernel
theorem dX12_sumOf_50 : decode cX12_sumOf 50 = .ok (.ifCond .eq 21, 3) := by decide +kernel
theorem dX12_sumOf_53 : decode cX12_sumOf 53 = .ok (.iload_n 3, 1) := by decide +kernel
theorem dX12_sumOf_54 : decode cX12_sumOf 54 = .ok (.aload_n 0, 1) := by decide +kernel
theorem dX12_sumOf_55 : decode cX12_sumOf 55 = .ok (.getfield 13, 3) := by decide +kernel
theorem dX12_sumOf_58 : decode cX12_sumOf 58 = .ok (.sipush 421, 3) := by decide +kernel
theorem dX12_sumOf_61 : decode cX12_sumOf 61 = .ok (.iconst 4, 1) := by decide +kernel
theorem dX12_sumOf_62 : decode cX12_sumOf 62 = .ok (.iload 4, 2) := by decide +kernel
theorem dX12_sumOf_64 : decode cX12_sumOf 64 = .ok (.imul, 1) := by decide +kernel
theorem dX12_sumOf_65 : decode cX12_sumOf 65 = .ok (.iadd, 1) := by decide +kernel
theorem dX12_sumOf_66 : decode cX12_sumOf 66 = .ok (.iconst 1, 1) := by decide +kernel
theorem dX12_sumOf_67 : decode cX12_sumOf 67 = .ok (.iadd, 1) := by decide +kernel
theorem dX12_sumOf_68 : decode cX12_sumOf 68 = .ok (.iaload, 1) := by decide +kernel
theorem dX12_sumOf_69 : decode cX12_sumOf 69 = .ok (.iadd, 1) := by decide +kernel
theorem dX12_sumOf_70 : decode cX12_sumOf 70 = .ok (.istore_n 3, 1) := by decide +kernel
theorem dX12_sumOf_71 : decode cX12_sumOf 71 = .ok (.iinc 4 1, 3) := by decide +kernel
theorem dX12_sumOf_74 : decode cX12_sumOf 74 = .ok (.goto (-69), 3) := by decide +kernel
theorem dX12_sumOf_77 : decode cX12_sumOf 77 = .ok (.iload_n 3, 1) := by decide +kernel
theorem dX12_sumOf_78 : decode cX12_sumOf 78 = .ok (.ireturn, 1) := by decide +kernel
theorem dX12_puts_0 : decode cX12_puts 0 = .ok (.aload_n 0, 1) := by decide +kernel
theorem dX12_puts_1 : decode cX12_puts 1 = .ok (.invokevirtual 268, 3) := by decide +kernel
theorem dX12_puts_4 : decode cX12_puts 4 = .ok (.ifCond .eq 5, 3) := by decide +kernel
theorem dX12_puts_7 : decode cX12_puts 7 = .ok (.iconst 0, 1) := by decide +kernel
theorem dX12_puts_8 : decode cX12_puts 8 = .ok (.ireturn, 1) := by decide +kernel
theorem dX12_puts_9 : decode cX12_puts 9 = .ok (.aload_n 0, 1) := by decide +kernel
theorem dX12_puts_10 : decode cX12_puts 10 = .ok (.getfield 13, 3) := by decide +kernel
theorem dX12_puts_13 : decode cX12_puts 13 = .ok (.iconst 2, 1) := by decide +kernel
theorem dX12_puts_14 : decode cX12_puts 14 = .ok (.iaload, 1) := by decide +kernel
theorem dX12_puts_15 : decode cX12_puts 15 = .ok (.iconst 1, 1) := by decide +kernel
theorem dX12_puts_16 : decode cX12_puts 16 = .ok (.if_icmp .ne 19, 3) := by decide +kernel
theorem dX12_puts_19 : decode cX12_puts 19 = .ok (.aload_n 0, 1) := by decide +kernel
theorem dX12_puts_20 : decode cX12_puts 20 = .ok (.getfield 256, 3) := by decide +kernel
theorem dX12_puts_23 : decode cX12_puts 23 = .ok (.aload_n 0, 1) := by decide +kernel
theorem dX12_puts_24 : decode cX12_puts 24 = .ok (.iconst 1, 1) := by decide +kernel
theorem dX12_puts_25 : decode cX12_puts 25 = .ok (.iload_n 1, 1) := by decide +kernel
theorem dX12_puts_26 : decode cX12_puts 26 = .ok (.invokevirtual 271, 3) := by decide +kernel
theorem dX12_puts_29 : decode cX12_puts 29 = .ok (.invokestatic 275, 3) := by decide +kernel
theorem dX12_puts_32 : decode cX12_puts 32 = .ok (.goto 18, 3) := by decide +kernel
theorem dX12_puts_35 : decode cX12_puts 35 = .ok (.iconst 0, 1) := by decide +kernel
theorem dX12_puts_36 : decode cX12_puts 36 = .ok (.aload_n 0, 1) := by decide +kernel
theorem dX12_puts_37 : decode cX12_puts 37 = .ok (.getfield 256, 3) := by decide +kernel
theorem dX12_puts_40 : decode cX12_puts 40 = .ok (.aload_n 0, 1) := by decide +kernel
theorem dX12_puts_41 : decode cX12_puts 41 = .ok (.iload_n 1, 1) := by decide +kernel
theorem dX12_puts_42 : decode cX12_puts 42 = .ok (.iconst 0, 1) := by decide +kernel
theorem dX12_puts_43 : decode cX12_puts 43 = .ok (.invokevirtual 68, 3) := by decide +kernel
theorem dX12_puts_46 : decode cX12_puts 46 = .ok (.isub, 1) := by decide +kernel
theorem dX12_puts_47 : decode cX12_puts 47 = .ok (.invokestatic 280, 3) := by decide +kernel
theorem dX12_puts_50 : decode cX12_puts 50 = .ok (.ireturn, 1) := by decide +kernel
theorem dX12_draws_0 : decode cX12_draws 0 = .ok (.aload_n 0, 1) := by decide +kernel
theorem dX12_draws_1 : decode cX12_draws 1 = .ok (.invokevirtual 268, 3) := by decide +kernel
theorem dX12_draws_4 : decode cX12_draws 4 = .ok (.ifCond .eq 5, 3) := by decide +kernel
theorem dX12_draws_7 : decode cX12_draws 7 = .ok (.iconst 0, 1) := by decide +kernel
theorem dX12_draws_8 : decode cX12_draws 8 = .ok (.ireturn, 1) := by decide +kernel
theorem dX12_draws_9 : decode cX12_draws 9 = .ok (.aload_n 0, 1) := by decide +kernel
theorem dX12_draws_10 : decode cX12_draws 10 = .ok (.iload_n 1, 1) := by decide +kernel
theorem dX12_draws_11 : decode cX12_draws 11 = .ok (.iconst 1, 1) := by decide +kernel
theorem dX12_draws_12 : decode cX12_draws 12 = .ok (.invokevirtual 68, 3) := by decide +kernel
theorem dX12_draws_15 : decode cX12_draws 15 = .ok (.aload_n 0, 1) := by decide +kernel
theorem dX12_draws_16 : decode cX12_draws 16 = .ok (.getfield 13, 3) := by decide +kernel
theorem dX12_draws_19 : decode cX12_draws 19 = .ok (.iconst 2, 1) := by decide +kernel
theorem dX12_draws_20 : decode cX12_draws 20 = .ok (.iaload, 1) := by decide +kernel
theorem dX12_draws_21 : decode cX12_draws 21 = .ok (.iconst 1, 1) := by decide +kernel
theorem dX12_draws_22 : decode cX12_draws 22 = .ok (.if_icmp .ne 12, 3) := by decide +kernel
theorem dX12_draws_25 : decode cX12_draws 25 = .ok (.aload_n 0, 1) := by decide +kernel
theorem dX12_draws_26 : decode cX12_draws 26 = .ok (.iconst 0, 1) := by decide +kernel
theorem dX12_draws_27 : decode cX12_draws 27 = .ok (.iload_n 1, 1) := by decide +kernel
theorem dX12_draws_28 : decode cX12_draws 28 = .ok (.invokevirtual 271, 3) := by decide +kernel
theorem dX12_draws_31 : decode cX12_draws 31 = .ok (.goto 18, 3) := by decide +kernel
theorem dX12_draws_34 : decode cX12_draws 34 = .ok (.iconst 0, 1) := by decide +kernel
theorem dX12_draws_35 : decode cX12_draws 35 = .ok (.aload_n 0, 1) := by decide +kernel
theorem dX12_draws_36 : decode cX12_draws 36 = .ok (.iload_n 1, 1) := by decide +kernel
theorem dX12_draws_37 : decode cX12_draws 37 = .ok (.iconst 0, 1) := by decide +kernel
theorem dX12_draws_38 : decode cX12_draws 38 = .ok (.invokevirtual 68, 3) := by decide +kernel
theorem dX12_draws_41 : decode cX12_draws 41 = .ok (.aload_n 0, 1) := by decide +kernel
theorem dX12_draws_42 : decode cX12_draws 42 = .ok (.getfield 256, 3) := by decide +kernel
theorem dX12_draws_45 : decode cX12_draws 45 = .ok (.isub, 1) := by decide +kernel
theorem dX12_draws_46 : decode cX12_draws 46 = .ok (.invokestatic 280, 3) := by decide +kernel
theorem dX12_draws_49 : decode cX12_draws 49 = .ok (.invokestatic 275, 3) := by decide +kernel
theorem dX12_draws_52 : decode cX12_draws 52 = .ok (.ireturn, 1) := by decide +kernel
theorem dX12_painOn_0 : decode cX12_painOn 0 = .ok (.aload_n 0, 1) := by decide +kernel
theorem dX12_painOn_1 : decode cX12_painOn 1 = .ok (.iload_n 1, 1) := by decide +kernel
theorem dX12_painOn_2 : decode cX12_painOn 2 = .ok (.bipush 6, 2) := by decide +kernel
theorem dX12_painOn_4 : decode cX12_painOn 4 = .ok (.sipush 9999, 3) := by decide +kernel
theorem dX12_painOn_7 : decode cX12_painOn 7 = .ok (.iload_n 2, 1) := by decide +kernel
theorem dX12_painOn_8 : decode cX12_painOn 8 = .ok (.invokestatic 275, 3) := by decide +kernel
theorem dX12_painOn_11 : decode cX12_painOn 11 = .ok (.bipush 7, 2) := by decide +kernel
theorem dX12_painOn_13 : decode cX12_painOn 13 = .ok (.irem, 1) := by decide +kernel
theorem dX12_painOn_14 : decode cX12_painOn 14 = .ok (.iadd, 1) := by decide +kernel
theorem dX12_painOn_15 : decode cX12_painOn 15 = .ok (.invokevirtual 68, 3) := by decide +kernel
theorem dX12_painOn_18 : decode cX12_painOn 18 = .ok (.ireturn, 1) := by decide +kernel
theorem dX12_takes_0 : decode cX12_takes 0 = .ok (.iload_n 2, 1) := by decide +kernel
theorem dX12_takes_1 : decode cX12_takes 1 = .ok (.aload_n 0, 1) := by decide +kernel
theorem dX12_takes_2 : decode cX12_takes 2 = .ok (.iload_n 1, 1) := by decide +kernel
theorem dX12_takes_3 : decode cX12_takes 3 = .ok (.iconst 2, 1) := by decide +kernel
theorem dX12_takes_4 : decode cX12_takes 4 = .ok (.invokevirtual 68, 3) := by decide +kernel
theorem dX12_takes_7 : decode cX12_takes 7 = .ok (.invokestatic 275, 3) := by decide +kernel
theorem dX12_takes_10 : decode cX12_takes 10 = .ok (.istore_n 3, 1) := by decide +kernel
theorem dX12_takes_11 : decode cX12_takes 11 = .ok (.aload_n 0, 1) := by decide +kernel
theorem dX12_takes_12 : decode cX12_takes 12 = .ok (.getfield 13, 3) := by decide +kernel
theorem dX12_takes_15 : decode cX12_takes 15 = .ok (.iload_n 1, 1) := by decide +kernel
theorem dX12_takes_16 : decode cX12_takes 16 = .ok (.iconst 2, 1) := by decide +kernel
theorem dX12_takes_17 : decode cX12_takes 17 = .ok (.invokestatic 64, 3) := by decide +kernel
theorem dX12_takes_20 : decode cX12_takes 20 = .ok (.dup2, 1) := by decide +kernel
theorem dX12_takes_21 : decode cX12_takes 21 = .ok (.iaload, 1) := by decide +kernel
theorem dX12_takes_22 : decode cX12_takes 22 = .ok (.iload_n 3, 1) := by decide +kernel
theorem dX12_takes_23 : decode cX12_takes 23 = .ok (.isub, 1) := by decide +kernel
theorem dX12_takes_24 : decode cX12_takes 24 = .ok (.iastore, 1) := by decide +kernel
theorem dX12_takes_25 : decode cX12_takes 25 = .ok (.aload_n 0, 1) := by decide +kernel
theorem dX12_takes_26 : decode cX12_takes 26 = .ok (.getfield 13, 3) := by decide +kernel
theorem dX12_takes_29 : decode cX12_takes 29 = .ok (.iload_n 1, 1) := by decide +kernel
theorem dX12_takes_30 : decode cX12_takes 30 = .ok (.iconst 1, 1) := by decide +kernel
theorem dX12_takes_31 : decode cX12_takes 31 = .ok (.invokestatic 64, 3) := by decide +kernel
theorem dX12_takes_34 : decode cX12_takes 34 = .ok (.dup2, 1) := by decide +kernel
theorem dX12_takes_35 : decode cX12_takes 35 = .ok (.iaload, 1) := by decide +kernel
theorem dX12_takes_36 : decode cX12_takes 36 = .ok (.iload_n 2, 1) := by decide +kernel
theorem dX12_takes_37 : decode cX12_takes 37 = .ok (.isub, 1) := by decide +kernel
theorem dX12_takes_38 : decode cX12_takes 38 = .ok (.iastore, 1) := by decide +kernel
theorem dX12_takes_39 : decode cX12_takes 39 = .ok (.iload_n 2, 1) := by decide +kernel
theorem dX12_takes_40 : decode cX12_takes 40 = .ok (.iload_n 3, 1) := by decide +kernel
theorem dX12_takes_41 : decode cX12_takes 41 = .ok (.isub, 1) := by decide +kernel
theorem dX12_takes_42 : decode cX12_takes 42 = .ok (.ireturn, 1) := by decide +kernel
theorem dX12_lives_0 : decode cX12_lives 0 = .ok (.aload_n 0, 1) := by decide +kernel
theorem dX12_lives_1 : decode cX12_lives 1 = .ok (.aload_n 0, 1) := by decide +kernel
theorem dX12_lives_2 : decode cX12_lives 2 = .ok (.iload_n 1, 1) := by decide +kernel
theorem dX12_lives_3 : decode cX12_lives 3 = .ok (.aload_n 0, 1) := by decide +kernel
theorem dX12_lives_4 : decode cX12_lives 4 = .ok (.getfield 13, 3) := by decide +kernel
theorem dX12_lives_7 : decode cX12_lives 7 = .ok (.iconst 3, 1) := by decide +kernel
theorem dX12_lives_8 : decode cX12_lives 8 = .ok (.iaload, 1) := by decide +kernel
theorem dX12_lives_9 : decode cX12_lives 9 = .ok (.invokevirtual 283, 3) := by decide +kernel
theorem dX12_lives_12 : decode cX12_lives 12 = .ok (.iload_n 3, 1) := by decide +kernel
theorem dX12_lives_13 : decode cX12_lives 13 = .ok (.ifCond .eq 7, 3) := by decide +kernel
theorem dX12_lives_16 : decode cX12_lives 16 = .ok (.iconst 5, 1) := by decide +kernel
theorem dX12_lives_17 : decode cX12_lives 17 = .ok (.goto 4, 3) := by decide +kernel
theorem dX12_lives_20 : decode cX12_lives 20 = .ok (.iconst 0, 1) := by decide +kernel
theorem dX12_lives_21 : decode cX12_lives 21 = .ok (.iadd, 1) := by decide +kernel
theorem dX12_lives_22 : decode cX12_lives 22 = .ok (.putfield 256, 3) := by decide +kernel
theorem dX12_lives_25 : decode cX12_lives 25 = .ok (.aload_n 0, 1) := by decide +kernel
theorem dX12_lives_26 : decode cX12_lives 26 = .ok (.iload_n 2, 1) := by decide +kernel
theorem dX12_lives_27 : decode cX12_lives 27 = .ok (.putfield 259, 3) := by decide +kernel
theorem dX12_lives_30 : decode cX12_lives 30 = .ok (.aload_n 0, 1) := by decide +kernel
theorem dX12_lives_31 : decode cX12_lives 31 = .ok (.getfield 42, 3) := by decide +kernel
theorem dX12_lives_34 : decode cX12_lives 34 = .ok (.iload_n 1, 1) := by decide +kernel
theorem dX12_lives_35 : decode cX12_lives 35 = .ok (.aload_n 0, 1) := by decide +kernel
theorem dX12_lives_36 : decode cX12_lives 36 = .ok (.iload_n 1, 1) := by decide +kernel
theorem dX12_lives_37 : decode cX12_lives 37 = .ok (.invokevirtual 286, 3) := by decide +kernel
theorem dX12_lives_40 : decode cX12_lives 40 = .ok (.iastore, 1) := by decide +kernel
theorem dX12_lives_41 : decode cX12_lives 41 = .ok (.aload_n 0, 1) := by decide +kernel
theorem dX12_lives_42 : decode cX12_lives 42 = .ok (.getfield 45, 3) := by decide +kernel
theorem dX12_lives_45 : decode cX12_lives 45 = .ok (.iload_n 1, 1) := by decide +kernel
theorem dX12_lives_46 : decode cX12_lives 46 = .ok (.aload_n 0, 1) := by decide +kernel
theorem dX12_lives_47 : decode cX12_lives 47 = .ok (.iload_n 1, 1) := by decide +kernel
theorem dX12_lives_48 : decode cX12_lives 48 = .ok (.invokevirtual 290, 3) := by decide +kernel
theorem dX12_lives_51 : decode cX12_lives 51 = .ok (.iastore, 1) := by decide +kernel
theorem dX12_lives_52 : decode cX12_lives 52 = .ok (.aload_n 0, 1) := by decide +kernel
theorem dX12_lives_53 : decode cX12_lives 53 = .ok (.getfield 48, 3) := by decide +kernel
theorem dX12_lives_56 : decode cX12_lives 56 = .ok (.iload_n 1, 1) := by decide +kernel
theorem dX12_lives_57 : decode cX12_lives 57 = .ok (.aload_n 0, 1) := by decide +kernel
theorem dX12_lives_58 : decode cX12_lives 58 = .ok (.getfield 256, 3) := by decide +kernel
theorem dX12_lives_61 : decode cX12_lives 61 = .ok (.aload_n 0, 1) := by decide +kernel
theorem dX12_lives_62 : decode cX12_lives 62 = .ok (.getfield 42, 3) := by decide +kernel
theorem dX12_lives_65 : decode cX12_lives 65 = .ok (.iload_n 1, 1) := by decide +kernel
theorem dX12_lives_66 : decode cX12_lives 66 = .ok (.iaload, 1) := by decide +kernel
theorem dX12_lives_67 : decode cX12_lives 67 = .ok (.isub, 1) := by decide +kernel
theorem dX12_lives_68 : decode cX12_lives 68 = .ok (.aload_n 0, 1) := by decide +kernel
theorem dX12_lives_69 : decode cX12_lives 69 = .ok (.iload_n 1, 1) := by decide +kernel
theorem dX12_lives_70 : decode cX12_lives 70 = .ok (.aload_n 0, 1) := by decide +kernel
theorem dX12_lives_71 : decode cX12_lives 71 = .ok (.getfield 45, 3) := by decide +kernel
theorem dX12_lives_74 : decode cX12_lives 74 = .ok (.iload_n 1, 1) := by decide +kernel
theorem dX12_lives_75 : decode cX12_lives 75 = .ok (.iaload, 1) := by decide +kernel
theorem dX12_lives_76 : decode cX12_lives 76 = .ok (.invokevirtual 293, 3) := by decide +kernel
theorem dX12_lives_79 : decode cX12_lives 79 = .ok (.iadd, 1) := by decide +kernel
theorem dX12_lives_80 : decode cX12_lives 80 = .ok (.iastore, 1) := by decide +kernel
theorem dX12_lives_81 : decode cX12_lives 81 = .ok (.aload_n 0, 1) := by decide +kernel
theorem dX12_lives_82 : decode cX12_lives 82 = .ok (.iload_n 1, 1) := by decide +kernel
theorem dX12_lives_83 : decode cX12_lives 83 = .ok (.iconst 1, 1) := by decide +kernel
theorem dX12_lives_84 : decode cX12_lives 84 = .ok (.invokevirtual 68, 3) := by decide +kernel
theorem dX12_lives_87 : decode cX12_lives 87 = .ok (.aload_n 0, 1) := by decide +kernel
theorem dX12_lives_88 : decode cX12_lives 88 = .ok (.getfield 42, 3) := by decide +kernel
theorem dX12_lives_91 : decode cX12_lives 91 = .ok (.iload_n 1, 1) := by decide +kernel
theorem dX12_lives_92 : decode cX12_lives 92 = .ok (.iaload, 1) := by decide +kernel
theorem dX12_lives_93 : decode cX12_lives 93 = .ok (.iadd, 1) := by decide +kernel
theorem dX12_lives_94 : decode cX12_lives 94 = .ok (.istore 4, 2) := by decide +kernel
theorem dX12_lives_96 : decode cX12_lives 96 = .ok (.aload_n 0, 1) := by decide +kernel
theorem dX12_lives_97 : decode cX12_lives 97 = .ok (.getfield 48, 3) := by decide +kernel
theorem dX12_lives_100 : decode cX12_lives 100 = .ok (.iload_n 1, 1) := by decide +kernel
theorem dX12_lives_101 : decode cX12_lives 101 = .ok (.dup2, 1) := by decide +kernel
theorem dX12_lives_102 : decode cX12_lives 102 = .ok (.iaload, 1) := by decide +kernel
theorem dX12_lives_103 : decode cX12_lives 103 = .ok (.iconst 0, 1) := by decide +kernel
theorem dX12_lives_104 : decode cX12_lives 104 = .ok (.iload 4, 2) := by decide +kernel
theorem dX12_lives_106 : decode cX12_lives 106 = .ok (.ldc 140, 2) := by decide +kernel
theorem dX12_lives_108 : decode cX12_lives 108 = .ok (.isub, 1) := by decide +kernel
theorem dX12_lives_109 : decode cX12_lives 109 = .ok (.invokestatic 280, 3) := by decide +kernel
theorem dX12_lives_112 : decode cX12_lives 112 = .ok (.iadd, 1) := by decide +kernel
theorem dX12_lives_113 : decode cX12_lives 113 = .ok (.iastore, 1) := by decide +kernel
theorem dX12_lives_114 : decode cX12_lives 114 = .ok (.aload_n 0, 1) := by decide +kernel
theorem dX12_lives_115 : decode cX12_lives 115 = .ok (.getfield 13, 3) := by decide +kernel
theorem dX12_lives_118 : decode cX12_lives 118 = .ok (.iload_n 1, 1) := by decide +kernel
theorem dX12_lives_119 : decode cX12_lives 119 = .ok (.iconst 1, 1) := by decide +kernel
theorem dX12_lives_120 : decode cX12_lives 120 = .ok (.invokestatic 64, 3) := by decide +kernel
theorem dX12_lives_123 : decode cX12_lives 123 = .ok (.ldc 140, 2) := by decide +kernel
theorem dX12_lives_125 : decode cX12_lives 125 = .ok (.iload 4, 2) := by decide +kernel
theorem dX12_lives_127 : decode cX12_lives 127 = .ok (.invokestatic 275, 3) := by decide +kernel
theorem dX12_lives_130 : decode cX12_lives 130 = .ok (.iastore, 1) := by decide +kernel
theorem dX12_lives_131 : decode cX12_lives 131 = .ok (.return_, 1) := by decide +kernel
theorem dX12_withRate_0 : decode cX12_withRate 0 = .ok (.ldc 140, 2) := by decide +kernel
theorem dX12_withRate_2 : decode cX12_withRate 2 = .ok (.iload_n 1, 1) := by decide +kernel
theorem dX12_withRate_3 : decode cX12_withRate 3 = .ok (.iload_n 1, 1) := by decide +kernel
theorem dX12_withRate_4 : decode cX12_withRate 4 = .ok (.aload_n 0, 1) := by decide +kernel
theorem dX12_withRate_5 : decode cX12_withRate 5 = .ok (.getfield 13, 3) := by decide +kernel
theorem dX12_withRate_8 : decode cX12_withRate 8 = .ok (.iconst 5, 1) := by decide +kernel
theorem dX12_withRate_9 : decode cX12_withRate 9 = .ok (.iaload, 1) := by decide +kernel
theorem dX12_withRate_10 : decode cX12_withRate 10 = .ok (.imul, 1) := by decide +kernel
theorem dX12_withRate_11 : decode cX12_withRate 11 = .ok (.bipush 99, 2) := by decide +kernel
theorem dX12_withRate_13 : decode cX12_withRate 13 = .ok (.iadd, 1) := by decide +kernel
theorem dX12_withRate_14 : decode cX12_withRate 14 = .ok (.bipush 100, 2) := by decide +kernel
theorem dX12_withRate_16 : decode cX12_withRate 16 = .ok (.idiv, 1) := by decide +kernel
theorem dX12_withRate_17 : decode cX12_withRate 17 = .ok (.iadd, 1) := by decide +kernel
theorem dX12_withRate_18 : decode cX12_withRate 18 = .ok (.invokestatic 275, 3) := by decide +kernel
theorem dX12_withRate_21 : decode cX12_withRate 21 = .ok (.ireturn, 1) := by decide +kernel
theorem dX12_allAccounts_0 : decode cX12_allAccounts 0 = .ok (.iconst 0, 1) := by decide +kernel
theorem dX12_allAccounts_1 : decode cX12_allAccounts 1 = .ok (.istore_n 1, 1) := by decide +kernel
theorem dX12_allAccounts_2 : decode cX12_allAccounts 2 = .ok (.iconst 0, 1) := by decide +kernel
theorem dX12_allAccounts_3 : decode cX12_allAccounts 3 = .ok (.istore_n 2, 1) := by decide +kernel
theorem dX12_allAccounts_4 : decode cX12_allAccounts 4 = .ok (.iload_n 2, 1) := by decide +kernel
theorem dX12_allAccounts_5 : decode cX12_allAccounts 5 = .ok (.aload_n 0, 1) := by decide +kernel
theorem dX12_allAccounts_6 : decode cX12_allAccounts 6 = .ok (.invokevirtual 74, 3) := by decide +kernel
theorem dX12_allAccounts_9 : decode cX12_allAccounts 9 = .ok (.if_icmp .ge 18, 3) := by decide +kernel
theorem dX12_allAccounts_12 : decode cX12_allAccounts 12 = .ok (.iload_n 1, 1) := by decide +kernel
theorem dX12_allAccounts_13 : decode cX12_allAccounts 13 = .ok (.aload_n 0, 1) := by decide +kernel
theorem dX12_allAccounts_14 : decode cX12_allAccounts 14 = .ok (.iload_n 2, 1) := by decide +kernel
theorem dX12_allAccounts_15 : decode cX12_allAccounts 15 = .ok (.iconst 1, 1) := by decide +kernel
theorem dX12_allAccounts_16 : decode cX12_allAccounts 16 = .ok (.invokevirtual 68, 3) := by decide +kernel
theorem dX12_allAccounts_19 : decode cX12_allAccounts 19 = .ok (.iadd, 1) := by decide +kernel
theorem dX12_allAccounts_20 : decode cX12_allAccounts 20 = .ok (.istore_n 1, 1) := by decide +kernel
theorem dX12_allAccounts_21 : decode cX12_allAccounts 21 = .ok (.iinc 2 1, 3) := by decide +kernel
theorem dX12_allAccounts_24 : decode cX12_allAccounts 24 = .ok (.goto (-20), 3) := by decide +kernel
theorem dX12_allAccounts_27 : decode cX12_allAccounts 27 = .ok (.iload_n 1, 1) := by decide +kernel
theorem dX12_allAccounts_28 : decode cX12_allAccounts 28 = .ok (.ireturn, 1) := by decide +kernel
theorem dX12_breaks_0 : decode cX12_breaks 0 = .ok (.aload_n 0, 1) := by decide +kernel
theorem dX12_breaks_1 : decode cX12_breaks 1 = .ok (.getfield 13, 3) := by decide +kernel
theorem dX12_breaks_4 : decode cX12_breaks 4 = .ok (.bipush 8, 2) := by decide +kernel
theorem dX12_breaks_6 : decode cX12_breaks 6 = .ok (.iconst 1, 1) := by decide +kernel
theorem dX12_breaks_7 : decode cX12_breaks 7 = .ok (.iastore, 1) := by decide +kernel
theorem dX12_breaks_8 : decode cX12_breaks 8 = .ok (.iconst 0, 1) := by decide +kernel
theorem dX12_breaks_9 : decode cX12_breaks 9 = .ok (.istore_n 1, 1) := by decide +kernel
theorem dX12_breaks_10 : decode cX12_breaks 10 = .ok (.iload_n 1, 1) := by decide +kernel
theorem dX12_breaks_11 : decode cX12_breaks 11 = .ok (.aload_n 0, 1) := by decide +kernel
theorem dX12_breaks_12 : decode cX12_breaks 12 = .ok (.invokevirtual 74, 3) := by decide +kernel
theorem dX12_breaks_15 : decode cX12_breaks 15 = .ok (.if_icmp .ge 64, 3) := by decide +kernel
theorem dX12_breaks_18 : decode cX12_breaks 18 = .ok (.aload_n 0, 1) := by decide +kernel
theorem dX12_breaks_19 : decode cX12_breaks 19 = .ok (.iload_n 1, 1) := by decide +kernel
theorem dX12_breaks_20 : decode cX12_breaks 20 = .ok (.invokevirtual 296, 3) := by decide +kernel
theorem dX12_breaks_23 : decode cX12_breaks 23 = .ok (.ifCond .ne 6, 3) := by decide +kernel
theorem dX12_breaks_26 : decode cX12_breaks 26 = .ok (.goto 47, 3) := by decide +kernel
theorem dX12_breaks_29 : decode cX12_breaks 29 = .ok (.aload_n 0, 1) := by decide +kernel
theorem dX12_breaks_30 : decode cX12_breaks 30 = .ok (.getfield 48, 3) := by decide +kernel
theorem dX12_breaks_33 : decode cX12_breaks 33 = .ok (.iload_n 1, 1) := by decide +kernel
theorem dX12_breaks_34 : decode cX12_breaks 34 = .ok (.dup2, 1) := by decide +kernel
theorem dX12_breaks_35 : decode cX12_breaks 35 = .ok (.iaload, 1) := by decide +kernel
theorem dX12_breaks_36 : decode cX12_breaks 36 = .ok (.aload_n 0, 1) := by decide +kernel
theorem dX12_breaks_37 : decode cX12_breaks 37 = .ok (.iload_n 1, 1) := by decide +kernel
theorem dX12_breaks_38 : decode cX12_breaks 38 = .ok (.iconst 1, 1) := by decide +kernel
theorem dX12_breaks_39 : decode cX12_breaks 39 = .ok (.invokevirtual 68, 3) := by decide +kernel
theorem dX12_breaks_42 : decode cX12_breaks 42 = .ok (.aload_n 0, 1) := by decide +kernel
theorem dX12_breaks_43 : decode cX12_breaks 43 = .ok (.iload_n 1, 1) := by decide +kernel
theorem dX12_breaks_44 : decode cX12_breaks 44 = .ok (.iconst 2, 1) := by decide +kernel
theorem dX12_breaks_45 : decode cX12_breaks 45 = .ok (.invokevirtual 68, 3) := by decide +kernel
theorem dX12_breaks_48 : decode cX12_breaks 48 = .ok (.isub, 1) := by decide +kernel
theorem dX12_breaks_49 : decode cX12_breaks 49 = .ok (.iadd, 1) := by decide +kernel
theorem dX12_breaks_50 : decode cX12_breaks 50 = .ok (.iastore, 1) := by decide +kernel
theorem dX12_breaks_51 : decode cX12_breaks 51 = .ok (.aload_n 0, 1) := by decide +kernel
theorem dX12_breaks_52 : decode cX12_breaks 52 = .ok (.getfield 13, 3) := by decide +kernel
theorem dX12_breaks_55 : decode cX12_breaks 55 = .ok (.iload_n 1, 1) := by decide +kernel
theorem dX12_breaks_56 : decode cX12_breaks 56 = .ok (.iconst 1, 1) := by decide +kernel
theorem dX12_breaks_57 : decode cX12_breaks 57 = .ok (.invokestatic 64, 3) := by decide +kernel
theorem dX12_breaks_60 : decode cX12_breaks 60 = .ok (.iconst 0, 1) := by decide +kernel
theorem dX12_breaks_61 : decode cX12_breaks 61 = .ok (.iastore, 1) := by decide +kernel
theorem dX12_breaks_62 : decode cX12_breaks 62 = .ok (.aload_n 0, 1) := by decide +kernel
theorem dX12_breaks_63 : decode cX12_breaks 63 = .ok (.getfield 13, 3) := by decide +kernel
theorem dX12_breaks_66 : decode cX12_breaks 66 = .ok (.iload_n 1, 1) := by decide +kernel
theorem dX12_breaks_67 : decode cX12_breaks 67 = .ok (.iconst 2, 1) := by decide +kernel
theorem dX12_breaks_68 : decode cX12_breaks 68 = .ok (.invokestatic 64, 3) := by decide +kernel
theorem dX12_breaks_71 : decode cX12_breaks 71 = .ok (.iconst 0, 1) := by decide +kernel
theorem dX12_breaks_72 : decode cX12_breaks 72 = .ok (.iastore, 1) := by decide +kernel
theorem dX12_breaks_73 : decode cX12_breaks 73 = .ok (.iinc 1 1, 3) := by decide +kernel
theorem dX12_breaks_76 : decode cX12_breaks 76 = .ok (.goto (-66), 3) := by decide +kernel
theorem dX12_breaks_79 : decode cX12_breaks 79 = .ok (.return_, 1) := by decide +kernel
theorem dX12_tells_0 : decode cX12_tells 0 = .ok (.sipush 239, 3) := by decide +kernel
theorem dX12_tells_3 : decode cX12_tells 3 = .ok (.istore_n 2, 1) := by decide +kernel
theorem dX12_tells_4 : decode cX12_tells 4 = .ok (.iload_n 2, 1) := by decide +kernel
theorem dX12_tells_5 : decode cX12_tells 5 = .ok (.iconst 4, 1) := by decide +kernel
theorem dX12_tells_6 : decode cX12_tells 6 = .ok (.if_icmp .lt 31, 3) := by decide +kernel
theorem dX12_tells_9 : decode cX12_tells 9 = .ok (.aload_n 0, 1) := by decide +kernel
theorem dX12_tells_10 : decode cX12_tells 10 = .ok (.getfield 13, 3) := by decide +kernel
theorem dX12_tells_13 : decode cX12_tells 13 = .ok (.sipush 180, 3) := by decide +kernel
theorem dX12_tells_16 : decode cX12_tells 16 = .ok (.iload_n 2, 1) := by decide +kernel
theorem dX12_tells_17 : decode cX12_tells 17 = .ok (.iadd, 1) := by decide +kernel
theorem dX12_tells_18 : decode cX12_tells 18 = .ok (.aload_n 0, 1) := by decide +kernel
theorem dX12_tells_19 : decode cX12_tells 19 = .ok (.getfield 13, 3) := by decide +kernel
theorem dX12_tells_22 : decode cX12_tells 22 = .ok (.sipush 180, 3) := by decide +kernel
theorem dX12_tells_25 : decode cX12_tells 25 = .ok (.iload_n 2, 1) := by decide +kernel
theorem dX12_tells_26 : decode cX12_tells 26 = .ok (.iadd, 1) := by decide +kernel
theorem dX12_tells_27 : decode cX12_tells 27 = .ok (.iconst 4, 1) := by decide +kernel
theorem dX12_tells_28 : decode cX12_tells 28 = .ok (.isub, 1) := by decide +kernel
theorem dX12_tells_29 : decode cX12_tells 29 = .ok (.iaload, 1) := by decide +kernel
theorem dX12_tells_30 : decode cX12_tells 30 = .ok (.iastore, 1) := by decide +kernel
theorem dX12_tells_31 : decode cX12_tells 31 = .ok (.iinc 2 (-1), 3) := by decide +kernel
theorem dX12_tells_34 : decode cX12_tells 34 = .ok (.goto (-30), 3) := by decide +kernel
theorem dX12_tells_37 : decode cX12_tells 37 = .ok (.aload_n 0, 1) := by decide +kernel
theorem dX12_tells_38 : decode cX12_tells 38 = .ok (.getfield 13, 3) := by decide +kernel
theorem dX12_tells_41 : decode cX12_tells 41 = .ok (.sipush 180, 3) := by decide +kernel
theorem dX12_tells_44 : decode cX12_tells 44 = .ok (.aload_n 0, 1) := by decide +kernel
theorem dX12_tells_45 : decode cX12_tells 45 = .ok (.getfield 13, 3) := by decide +kernel
theorem dX12_tells_48 : decode cX12_tells 48 = .ok (.iconst 3, 1) := by decide +kernel
theorem dX12_tells_49 : decode cX12_tells 49 = .ok (.iaload, 1) := by decide +kernel
theorem dX12_tells_50 : decode cX12_tells 50 = .ok (.iastore, 1) := by decide +kernel
theorem dX12_tells_51 : decode cX12_tells 51 = .ok (.aload_n 0, 1) := by decide +kernel
theorem dX12_tells_52 : decode cX12_tells 52 = .ok (.getfield 13, 3) := by decide +kernel
theorem dX12_tells_55 : decode cX12_tells 55 = .ok (.sipush 181, 3) := by decide +kernel
theorem dX12_tells_58 : decode cX12_tells 58 = .ok (.iload_n 1, 1) := by decide +kernel
theorem dX12_tells_59 : decode cX12_tells 59 = .ok (.iastore, 1) := by decide +kernel
theorem dX12_tells_60 : decode cX12_tells 60 = .ok (.aload_n 0, 1) := by decide +kernel
theorem dX12_tells_61 : decode cX12_tells 61 = .ok (.getfield 13, 3) := by decide +kernel
theorem dX12_tells_64 : decode cX12_tells 64 = .ok (.sipush 182, 3) := by decide +kernel
theorem dX12_tells_67 : decode cX12_tells 67 = .ok (.aload_n 0, 1) := by decide +kernel
theorem dX12_tells_68 : decode cX12_tells 68 = .ok (.getfield 48, 3) := by decide +kernel
theorem dX12_tells_71 : decode cX12_tells 71 = .ok (.iload_n 1, 1) := by decide +kernel
theorem dX12_tells_72 : decode cX12_tells 72 = .ok (.iaload, 1) := by decide +kernel
theorem dX12_tells_73 : decode cX12_tells 73 = .ok (.iastore, 1) := by decide +kernel
theorem dX12_tells_74 : decode cX12_tells 74 = .ok (.aload_n 0, 1) := by decide +kernel
theorem dX12_tells_75 : decode cX12_tells 75 = .ok (.getfield 13, 3) := by decide +kernel
theorem dX12_tells_78 : decode cX12_tells 78 = .ok (.sipush 183, 3) := by decide +kernel
theorem dX12_tells_81 : decode cX12_tells 81 = .ok (.aload_n 0, 1) := by decide +kernel
theorem dX12_tells_82 : decode cX12_tells 82 = .ok (.iload_n 1, 1) := by decide +kernel
theorem dX12_tells_83 : decode cX12_tells 83 = .ok (.iconst 0, 1) := by decide +kernel
theorem dX12_tells_84 : decode cX12_tells 84 = .ok (.invokevirtual 68, 3) := by decide +kernel
theorem dX12_tells_87 : decode cX12_tells 87 = .ok (.iastore, 1) := by decide +kernel
theorem dX12_tells_88 : decode cX12_tells 88 = .ok (.aload_n 0, 1) := by decide +kernel
theorem dX12_tells_89 : decode cX12_tells 89 = .ok (.getfield 13, 3) := by decide +kernel
theorem dX12_tells_92 : decode cX12_tells 92 = .ok (.bipush 10, 2) := by decide +kernel
theorem dX12_tells_94 : decode cX12_tells 94 = .ok (.bipush 60, 2) := by decide +kernel
theorem dX12_tells_96 : decode cX12_tells 96 = .ok (.aload_n 0, 1) := by decide +kernel
theorem dX12_tells_97 : decode cX12_tells 97 = .ok (.getfield 13, 3) := by decide +kernel
theorem dX12_tells_100 : decode cX12_tells 100 = .ok (.bipush 10, 2) := by decide +kernel
theorem dX12_tells_102 : decode cX12_tells 102 = .ok (.iaload, 1) := by decide +kernel
theorem dX12_tells_103 : decode cX12_tells 103 = .ok (.iconst 1, 1) := by decide +kernel
theorem dX12_tells_104 : decode cX12_tells 104 = .ok (.iadd, 1) := by decide +kernel
theorem dX12_tells_105 : decode cX12_tells 105 = .ok (.invokestatic 275, 3) := by decide +kernel
theorem dX12_tells_108 : decode cX12_tells 108 = .ok (.iastore, 1) := by decide +kernel
theorem dX12_tells_109 : decode cX12_tells 109 = .ok (.aload_n 0, 1) := by decide +kernel
theorem dX12_tells_110 : decode cX12_tells 110 = .ok (.getfield 13, 3) := by decide +kernel
theorem dX12_tells_113 : decode cX12_tells 113 = .ok (.bipush 9, 2) := by decide +kernel
theorem dX12_tells_115 : decode cX12_tells 115 = .ok (.dup2, 1) := by decide +kernel
theorem dX12_tells_116 : decode cX12_tells 116 = .ok (.iaload, 1) := by decide +kernel
theorem dX12_tells_117 : decode cX12_tells 117 = .ok (.iconst 1, 1) := by decide +kernel
theorem dX12_tells_118 : decode cX12_tells 118 = .ok (.iadd, 1) := by decide +kernel
theorem dX12_tells_119 : decode cX12_tells 119 = .ok (.iastore, 1) := by decide +kernel
theorem dX12_tells_120 : decode cX12_tells 120 = .ok (.return_, 1) := by decide +kernel
theorem dX12_isTooMuch_0 : decode cX12_isTooMuch 0 = .ok (.aload_n 0, 1) := by decide +kernel
theorem dX12_isTooMuch_1 : decode cX12_isTooMuch 1 = .ok (.iload_n 1, 1) := by decide +kernel
theorem dX12_isTooMuch_2 : decode cX12_isTooMuch 2 = .ok (.invokevirtual 296, 3) := by decide +kernel
theorem dX12_isTooMuch_5 : decode cX12_isTooMuch 5 = .ok (.ifCond .eq 22, 3) := by decide +kernel
theorem dX12_isTooMuch_8 : decode cX12_isTooMuch 8 = .ok (.aload_n 0, 1) := by decide +kernel
theorem dX12_isTooMuch_9 : decode cX12_isTooMuch 9 = .ok (.getfield 48, 3) := by decide +kernel
theorem dX12_isTooMuch_12 : decode cX12_isTooMuch 12 = .ok (.iload_n 1, 1) := by decide +kernel
theorem dX12_isTooMuch_13 : decode cX12_isTooMuch 13 = .ok (.iaload, 1) := by decide +kernel
theorem dX12_isTooMuch_14 : decode cX12_isTooMuch 14 = .ok (.aload_n 0, 1) := by decide +kernel
theorem dX12_isTooMuch_15 : decode cX12_isTooMuch 15 = .ok (.iload_n 1, 1) := by decide +kernel
theorem dX12_isTooMuch_16 : decode cX12_isTooMuch 16 = .ok (.iconst 0, 1) := by decide +kernel
theorem dX12_isTooMuch_17 : decode cX12_isTooMuch 17 = .ok (.invokevirtual 68, 3) := by decide +kernel
theorem dX12_isTooMuch_20 : decode cX12_isTooMuch 20 = .ok (.if_icmp .le 7, 3) := by decide +kernel
theorem dX12_isTooMuch_23 : decode cX12_isTooMuch 23 = .ok (.iconst 1, 1) := by decide +kernel
theorem dX12_isTooMuch_24 : decode cX12_isTooMuch 24 = .ok (.goto 4, 3) := by decide +kernel
theorem dX12_isTooMuch_27 : decode cX12_isTooMuch 27 = .ok (.iconst 0, 1) := by decide +kernel
theorem dX12_isTooMuch_28 : decode cX12_isTooMuch 28 = .ok (.ireturn, 1) := by decide +kernel
theorem dX12_isRateDay_0 : decode cX12_isRateDay 0 = .ok (.iload_n 1, 1) := by decide +kernel
theorem dX12_isRateDay_1 : decode cX12_isRateDay 1 = .ok (.iconst 1, 1) := by decide +kernel
theorem dX12_isRateDay_2 : decode cX12_isRateDay 2 = .ok (.iadd, 1) := by decide +kernel
theorem dX12_isRateDay_3 : decode cX12_isRateDay 3 = .ok (.bipush 10, 2) := by decide +kernel
theorem dX12_isRateDay_5 : decode cX12_isRateDay 5 = .ok (.irem, 1) := by decide +kernel
theorem dX12_isRateDay_6 : decode cX12_isRateDay 6 = .ok (.ifCond .ne 7, 3) := by decide +kernel
theorem dX12_isRateDay_9 : decode cX12_isRateDay 9 = .ok (.iconst 1, 1) := by decide +kernel
theorem dX12_isRateDay_10 : decode cX12_isRateDay 10 = .ok (.goto 4, 3) := by decide +kernel
theorem dX12_isRateDay_13 : decode cX12_isRateDay 13 = .ok (.iconst 0, 1) := by decide +kernel
theorem dX12_isRateDay_14 : decode cX12_isRateDay 14 = .ok (.ireturn, 1) := by decide +kernel
theorem dX12_oneDay_0 : decode cX12_oneDay 0 = .ok (.iload_n 1, 1) := by decide +kernel
theorem dX12_oneDay_1 : decode cX12_oneDay 1 = .ok (.ifCond .ne 23, 3) := by decide +kernel
theorem dX12_oneDay_4 : decode cX12_oneDay 4 = .ok (.aload_n 0, 1) := by decide +kernel
theorem dX12_oneDay_5 : decode cX12_oneDay 5 = .ok (.bipush 100, 2) := by decide +kernel
theorem dX12_oneDay_7 : decode cX12_oneDay 7 = .ok (.invokevirtual 299, 3) := by decide +kernel
theorem dX12_oneDay_10 : decode cX12_oneDay 10 = .ok (.aload_n 0, 1) := by decide +kernel
theorem dX12_oneDay_11 : decode cX12_oneDay 11 = .ok (.getfield 13, 3) := by decide +kernel
theorem dX12_oneDay_14 : decode cX12_oneDay 14 = .ok (.bipush 6, 2) := by decide +kernel
theorem dX12_oneDay_16 : decode cX12_oneDay 16 = .ok (.iaload, 1) := by decide +kernel
theorem dX12_oneDay_17 : decode cX12_oneDay 17 = .ok (.if_icmp .ge 7, 3) := by decide +kernel
theorem dX12_oneDay_20 : decode cX12_oneDay 20 = .ok (.iconst 1, 1) := by decide +kernel
theorem dX12_oneDay_21 : decode cX12_oneDay 21 = .ok (.goto 4, 3) := by decide +kernel
theorem dX12_oneDay_24 : decode cX12_oneDay 24 = .ok (.iconst 0, 1) := by decide +kernel
theorem dX12_oneDay_25 : decode cX12_oneDay 25 = .ok (.istore_n 2, 1) := by decide +kernel
theorem dX12_oneDay_26 : decode cX12_oneDay 26 = .ok (.iconst 0, 1) := by decide +kernel
theorem dX12_oneDay_27 : decode cX12_oneDay 27 = .ok (.istore_n 3, 1) := by decide +kernel
theorem dX12_oneDay_28 : decode cX12_oneDay 28 = .ok (.iload_n 3, 1) := by decide +kernel
theorem dX12_oneDay_29 : decode cX12_oneDay 29 = .ok (.aload_n 0, 1) := by decide +kernel
theorem dX12_oneDay_30 : decode cX12_oneDay 30 = .ok (.invokevirtual 74, 3) := by decide +kernel
theorem dX12_oneDay_33 : decode cX12_oneDay 33 = .ok (.if_icmp .ge 55, 3) := by decide +kernel
theorem dX12_oneDay_36 : decode cX12_oneDay 36 = .ok (.aload_n 0, 1) := by decide +kernel
theorem dX12_oneDay_37 : decode cX12_oneDay 37 = .ok (.getfield 48, 3) := by decide +kernel
theorem dX12_oneDay_40 : decode cX12_oneDay 40 = .ok (.iload_n 3, 1) := by decide +kernel
theorem dX12_oneDay_41 : decode cX12_oneDay 41 = .ok (.iconst 0, 1) := by decide +kernel
theorem dX12_oneDay_42 : decode cX12_oneDay 42 = .ok (.iastore, 1) := by decide +kernel
theorem dX12_oneDay_43 : decode cX12_oneDay 43 = .ok (.aload_n 0, 1) := by decide +kernel
theorem dX12_oneDay_44 : decode cX12_oneDay 44 = .ok (.iload_n 3, 1) := by decide +kernel
theorem dX12_oneDay_45 : decode cX12_oneDay 45 = .ok (.invokevirtual 296, 3) := by decide +kernel
theorem dX12_oneDay_48 : decode cX12_oneDay 48 = .ok (.ifCond .eq 34, 3) := by decide +kernel
theorem dX12_oneDay_51 : decode cX12_oneDay 51 = .ok (.aload_n 0, 1) := by decide +kernel
theorem dX12_oneDay_52 : decode cX12_oneDay 52 = .ok (.iload_n 3, 1) := by decide +kernel
theorem dX12_oneDay_53 : decode cX12_oneDay 53 = .ok (.iload_n 2, 1) := by decide +kernel
theorem dX12_oneDay_54 : decode cX12_oneDay 54 = .ok (.iload_n 1, 1) := by decide +kernel
theorem dX12_oneDay_55 : decode cX12_oneDay 55 = .ok (.ifCond .ne 23, 3) := by decide +kernel
theorem dX12_oneDay_58 : decode cX12_oneDay 58 = .ok (.aload_n 0, 1) := by decide +kernel
theorem dX12_oneDay_59 : decode cX12_oneDay 59 = .ok (.bipush 100, 2) := by decide +kernel
theorem dX12_oneDay_61 : decode cX12_oneDay 61 = .ok (.invokevirtual 299, 3) := by decide +kernel
theorem dX12_oneDay_64 : decode cX12_oneDay 64 = .ok (.aload_n 0, 1) := by decide +kernel
theorem dX12_oneDay_65 : decode cX12_oneDay 65 = .ok (.getfield 13, 3) := by decide +kernel
theorem dX12_oneDay_68 : decode cX12_oneDay 68 = .ok (.bipush 7, 2) := by decide +kernel
theorem dX12_oneDay_70 : decode cX12_oneDay 70 = .ok (.iaload, 1) := by decide +kernel
theorem dX12_oneDay_71 : decode cX12_oneDay 71 = .ok (.if_icmp .ge 7, 3) := by decide +kernel
theorem dX12_oneDay_74 : decode cX12_oneDay 74 = .ok (.iconst 1, 1) := by decide +kernel
theorem dX12_oneDay_75 : decode cX12_oneDay 75 = .ok (.goto 4, 3) := by decide +kernel
theorem dX12_oneDay_78 : decode cX12_oneDay 78 = .ok (.iconst 0, 1) := by decide +kernel
theorem dX12_oneDay_79 : decode cX12_oneDay 79 = .ok (.invokevirtual 302, 3) := by decide +kernel
theorem dX12_oneDay_82 : decode cX12_oneDay 82 = .ok (.iinc 3 1, 3) := by decide +kernel
theorem dX12_oneDay_85 : decode cX12_oneDay 85 = .ok (.goto (-57), 3) := by decide +kernel
theorem dX12_oneDay_88 : decode cX12_oneDay 88 = .ok (.iconst 0, 1) := by decide +kernel
theorem dX12_oneDay_89 : decode cX12_oneDay 89 = .ok (.istore_n 3, 1) := by decide +kernel
theorem dX12_oneDay_90 : decode cX12_oneDay 90 = .ok (.iload_n 3, 1) := by decide +kernel
theorem dX12_oneDay_91 : decode cX12_oneDay 91 = .ok (.aload_n 0, 1) := by decide +kernel
theorem dX12_oneDay_92 : decode cX12_oneDay 92 = .ok (.invokevirtual 74, 3) := by decide +kernel
theorem dX12_oneDay_95 : decode cX12_oneDay 95 = .ok (.if_icmp .ge 50, 3) := by decide +kernel
theorem dX12_oneDay_98 : decode cX12_oneDay 98 = .ok (.aload_n 0, 1) := by decide +kernel
theorem dX12_oneDay_99 : decode cX12_oneDay 99 = .ok (.iload_n 3, 1) := by decide +kernel
theorem dX12_oneDay_100 : decode cX12_oneDay 100 = .ok (.invokevirtual 296, 3) := by decide +kernel
theorem dX12_oneDay_103 : decode cX12_oneDay 103 = .ok (.ifCond .eq 36, 3) := by decide +kernel
theorem dX12_oneDay_106 : decode cX12_oneDay 106 = .ok (.aload_n 0, 1) := by decide +kernel
theorem dX12_oneDay_107 : decode cX12_oneDay 107 = .ok (.aload_n 0, 1) := by decide +kernel
theorem dX12_oneDay_108 : decode cX12_oneDay 108 = .ok (.getfield 13, 3) := by decide +kernel
theorem dX12_oneDay_111 : decode cX12_oneDay 111 = .ok (.iconst 3, 1) := by decide +kernel
theorem dX12_oneDay_112 : decode cX12_oneDay 112 = .ok (.iaload, 1) := by decide +kernel
theorem dX12_oneDay_113 : decode cX12_oneDay 113 = .ok (.invokevirtual 306, 3) := by decide +kernel
theorem dX12_oneDay_116 : decode cX12_oneDay 116 = .ok (.ifCond .eq 23, 3) := by decide +kernel
theorem dX12_oneDay_119 : decode cX12_oneDay 119 = .ok (.aload_n 0, 1) := by decide +kernel
theorem dX12_oneDay_120 : decode cX12_oneDay 120 = .ok (.getfield 13, 3) := by decide +kernel
theorem dX12_oneDay_123 : decode cX12_oneDay 123 = .ok (.iload_n 3, 1) := by decide +kernel
theorem dX12_oneDay_124 : decode cX12_oneDay 124 = .ok (.iconst 1, 1) := by decide +kernel
theorem dX12_oneDay_125 : decode cX12_oneDay 125 = .ok (.invokestatic 64, 3) := by decide +kernel
theorem dX12_oneDay_128 : decode cX12_oneDay 128 = .ok (.aload_n 0, 1) := by decide +kernel
theorem dX12_oneDay_129 : decode cX12_oneDay 129 = .ok (.aload_n 0, 1) := by decide +kernel
theorem dX12_oneDay_130 : decode cX12_oneDay 130 = .ok (.iload_n 3, 1) := by decide +kernel
theorem dX12_oneDay_131 : decode cX12_oneDay 131 = .ok (.iconst 1, 1) := by decide +kernel
theorem dX12_oneDay_132 : decode cX12_oneDay 132 = .ok (.invokevirtual 68, 3) := by decide +kernel
theorem dX12_oneDay_135 : decode cX12_oneDay 135 = .ok (.invokevirtual 309, 3) := by decide +kernel
theorem dX12_oneDay_138 : decode cX12_oneDay 138 = .ok (.iastore, 1) := by decide +kernel
theorem dX12_oneDay_139 : decode cX12_oneDay 139 = .ok (.iinc 3 1, 3) := by decide +kernel
theorem dX12_oneDay_142 : decode cX12_oneDay 142 = .ok (.goto (-52), 3) := by decide +kernel
theorem dX12_oneDay_145 : decode cX12_oneDay 145 = .ok (.aload_n 0, 1) := by decide +kernel
theorem dX12_oneDay_146 : decode cX12_oneDay 146 = .ok (.invokevirtual 312, 3) := by decide +kernel
theorem dX12_oneDay_149 : decode cX12_oneDay 149 = .ok (.aload_n 0, 1) := by decide +kernel
theorem dX12_oneDay_150 : decode cX12_oneDay 150 = .ok (.getfield 13, 3) := by decide +kernel
theorem dX12_oneDay_153 : decode cX12_oneDay 153 = .ok (.iconst 4, 1) := by decide +kernel
theorem dX12_oneDay_154 : decode cX12_oneDay 154 = .ok (.iaload, 1) := by decide +kernel
theorem dX12_oneDay_155 : decode cX12_oneDay 155 = .ok (.if_icmp .le 7, 3) := by decide +kernel
theorem dX12_oneDay_158 : decode cX12_oneDay 158 = .ok (.aload_n 0, 1) := by decide +kernel
theorem dX12_oneDay_159 : decode cX12_oneDay 159 = .ok (.invokevirtual 315, 3) := by decide +kernel
theorem dX12_oneDay_162 : decode cX12_oneDay 162 = .ok (.iconst 0, 1) := by decide +kernel
theorem dX12_oneDay_163 : decode cX12_oneDay 163 = .ok (.istore_n 3, 1) := by decide +kernel
theorem dX12_oneDay_164 : decode cX12_oneDay 164 = .ok (.iload_n 3, 1) := by decide +kernel
theorem dX12_oneDay_165 : decode cX12_oneDay 165 = .ok (.aload_n 0, 1) := by decide +kernel
theorem dX12_oneDay_166 : decode cX12_oneDay 166 = .ok (.invokevirtual 74, 3) := by decide +kernel
theorem dX12_oneDay_169 : decode cX12_oneDay 169 = .ok (.if_icmp .ge 22, 3) := by decide +kernel
theorem dX12_oneDay_172 : decode cX12_oneDay 172 = .ok (.aload_n 0, 1) := by decide +kernel
theorem dX12_oneDay_173 : decode cX12_oneDay 173 = .ok (.iload_n 3, 1) := by decide +kernel
theorem dX12_oneDay_174 : decode cX12_oneDay 174 = .ok (.invokevirtual 318, 3) := by decide +kernel
theorem dX12_oneDay_177 : decode cX12_oneDay 177 = .ok (.ifCond .eq 8, 3) := by decide +kernel
theorem dX12_oneDay_180 : decode cX12_oneDay 180 = .ok (.aload_n 0, 1) := by decide +kernel
theorem dX12_oneDay_181 : decode cX12_oneDay 181 = .ok (.iload_n 3, 1) := by decide +kernel
theorem dX12_oneDay_182 : decode cX12_oneDay 182 = .ok (.invokevirtual 321, 3) := by decide +kernel
theorem dX12_oneDay_185 : decode cX12_oneDay 185 = .ok (.iinc 3 1, 3) := by decide +kernel
theorem dX12_oneDay_188 : decode cX12_oneDay 188 = .ok (.goto (-24), 3) := by decide +kernel
theorem dX12_oneDay_191 : decode cX12_oneDay 191 = .ok (.aload_n 0, 1) := by decide +kernel
theorem dX12_oneDay_192 : decode cX12_oneDay 192 = .ok (.getfield 13, 3) := by decide +kernel
theorem dX12_oneDay_195 : decode cX12_oneDay 195 = .ok (.iconst 3, 1) := by decide +kernel
theorem dX12_oneDay_196 : decode cX12_oneDay 196 = .ok (.sipush 9999, 3) := by decide +kernel
theorem dX12_oneDay_199 : decode cX12_oneDay 199 = .ok (.aload_n 0, 1) := by decide +kernel
theorem dX12_oneDay_200 : decode cX12_oneDay 200 = .ok (.getfield 13, 3) := by decide +kernel
theorem dX12_oneDay_203 : decode cX12_oneDay 203 = .ok (.iconst 3, 1) := by decide +kernel
theorem dX12_oneDay_204 : decode cX12_oneDay 204 = .ok (.iaload, 1) := by decide +kernel
theorem dX12_oneDay_205 : decode cX12_oneDay 205 = .ok (.iconst 1, 1) := by decide +kernel
theorem dX12_oneDay_206 : decode cX12_oneDay 206 = .ok (.iadd, 1) := by decide +kernel
theorem dX12_oneDay_207 : decode cX12_oneDay 207 = .ok (.invokestatic 275, 3) := by decide +kernel
theorem dX12_oneDay_210 : decode cX12_oneDay 210 = .ok (.iastore, 1) := by decide +kernel
theorem dX12_oneDay_211 : decode cX12_oneDay 211 = .ok (.return_, 1) := by decide +kernel
theorem dX12_keepsAll_0 : decode cX12_keepsAll 0 = .ok (.iconst 0, 1) := by decide +kernel
theorem dX12_keepsAll_1 : decode cX12_keepsAll 1 = .ok (.istore_n 1, 1) := by decide +kernel
theorem dX12_keepsAll_2 : decode cX12_keepsAll 2 = .ok (.iload_n 1, 1) := by decide +kernel
theorem dX12_keepsAll_3 : decode cX12_keepsAll 3 = .ok (.sipush 420, 3) := by decide +kernel
theorem dX12_keepsAll_6 : decode cX12_keepsAll 6 = .ok (.if_icmp .ge 21, 3) := by decide +kernel
theorem dX12_keepsAll_9 : decode cX12_keepsAll 9 = .ok (.aload_n 0, 1) := by decide +kernel
theorem dX12_keepsAll_10 : decode cX12_keepsAll 10 = .ok (.getfield 23, 3) := by decide +kernel
theorem dX12_keepsAll_13 : decode cX12_keepsAll 13 = .ok (.iload_n 1, 1) := by decide +kernel
theorem dX12_keepsAll_14 : decode cX12_keepsAll 14 = .ok (.aload_n 0, 1) := by decide +kernel
theorem dX12_keepsAll_15 : decode cX12_keepsAll 15 = .ok (.getfield 13, 3) := by decide +kernel
theorem dX12_keepsAll_18 : decode cX12_keepsAll 18 = .ok (.iload_n 1, 1) := by decide +kernel
theorem dX12_keepsAll_19 : decode cX12_keepsAll 19 = .ok (.iaload, 1) := by decide +kernel
theorem dX12_keepsAll_20 : decode cX12_keepsAll 20 = .ok (.iastore, 1) := by decide +kernel
theorem dX12_keepsAll_21 : decode cX12_keepsAll 21 = .ok (.iinc 1 1, 3) := by decide +kernel
theorem dX12_keepsAll_24 : decode cX12_keepsAll 24 = .ok (.goto (-22), 3) := by decide +kernel
theorem dX12_keepsAll_27 : decode cX12_keepsAll 27 = .ok (.return_, 1) := by decide +kernel
theorem dX12_bringsBack_0 : decode cX12_bringsBack 0 = .ok (.iconst 0, 1) := by decide +kernel
theorem dX12_bringsBack_1 : decode cX12_bringsBack 1 = .ok (.istore_n 1, 1) := by decide +kernel
theorem dX12_bringsBack_2 : decode cX12_bringsBack 2 = .ok (.iload_n 1, 1) := by decide +kernel
theorem dX12_bringsBack_3 : decode cX12_bringsBack 3 = .ok (.sipush 420, 3) := by decide +kernel
theorem dX12_bringsBack_6 : decode cX12_bringsBack 6 = .ok (.if_icmp .ge 21, 3) := by decide +kernel
theorem dX12_bringsBack_9 : decode cX12_bringsBack 9 = .ok (.aload_n 0, 1) := by decide +kernel
theorem dX12_bringsBack_10 : decode cX12_bringsBack 10 = .ok (.getfield 13, 3) := by decide +kernel
theorem dX12_bringsBack_13 : decode cX12_bringsBack 13 = .ok (.iload_n 1, 1) := by decide +kernel
theorem dX12_bringsBack_14 : decode cX12_bringsBack 14 = .ok (.aload_n 0, 1) := by decide +kernel
theorem dX12_bringsBack_15 : decode cX12_bringsBack 15 = .ok (.getfield 23, 3) := by decide +kernel
theorem dX12_bringsBack_18 : decode cX12_bringsBack 18 = .ok (.iload_n 1, 1) := by decide +kernel
theorem dX12_bringsBack_19 : decode cX12_bringsBack 19 = .ok (.iaload, 1) := by decide +kernel
theorem dX12_bringsBack_20 : decode cX12_bringsBack 20 = .ok (.iastore, 1) := by decide +kernel
theorem dX12_bringsBack_21 : decode cX12_bringsBack 21 = .ok (.iinc 1 1, 3) := by decide +kernel
theorem dX12_bringsBack_24 : decode cX12_bringsBack 24 = .ok (.goto (-22), 3) := by decide +kernel
theorem dX12_bringsBack_27 : decode cX12_bringsBack 27 = .ok (.return_, 1) := by decide +kernel
theorem dX12_calmDays_0 : decode cX12_calmDays 0 = .ok (.iconst 0, 1) := by decide +kernel
theorem dX12_calmDays_1 : decode cX12_calmDays 1 = .ok (.istore_n 2, 1) := by decide +kernel
theorem dX12_calmDays_2 : decode cX12_calmDays 2 = .ok (.iload_n 2, 1) := by decide +kernel
theorem dX12_calmDays_3 : decode cX12_calmDays 3 = .ok (.iload_n 1, 1) := by decide +kernel
theorem dX12_calmDays_4 : decode cX12_calmDays 4 = .ok (.if_icmp .ge 14, 3) := by decide +kernel
theorem dX12_calmDays_7 : decode cX12_calmDays 7 = .ok (.aload_n 0, 1) := by decide +kernel
theorem dX12_calmDays_8 : decode cX12_calmDays 8 = .ok (.iconst 1, 1) := by decide +kernel
theorem dX12_calmDays_9 : decode cX12_calmDays 9 = .ok (.invokevirtual 325, 3) := by decide +kernel
theorem dX12_calmDays_12 : decode cX12_calmDays 12 = .ok (.iinc 2 1, 3) := by decide +kernel
theorem dX12_calmDays_15 : decode cX12_calmDays 15 = .ok (.goto (-13), 3) := by decide +kernel
theorem dX12_calmDays_18 : decode cX12_calmDays 18 = .ok (.return_, 1) := by decide +kernel
theorem dX12_netOf_0 : decode cX12_netOf 0 = .ok (.iconst 0, 1) := by decide +kernel
theorem dX12_netOf_1 : decode cX12_netOf 1 = .ok (.istore_n 2, 1) := by decide +kernel
theorem dX12_netOf_2 : decode cX12_netOf 2 = .ok (.iconst 0, 1) := by decide +kernel
theorem dX12_netOf_3 : decode cX12_netOf 3 = .ok (.istore_n 3, 1) := by decide +kernel
theorem dX12_netOf_4 : decode cX12_netOf 4 = .ok (.iload_n 3, 1) := by decide +kernel
theorem dX12_netOf_5 : decode cX12_netOf 5 = .ok (.aload_n 0, 1) := by decide +kernel
theorem dX12_netOf_6 : decode cX12_netOf 6 = .ok (.invokevirtual 74, 3) := by decide +kernel
theorem dX12_netOf_9 : decode cX12_netOf 9 = .ok (.if_icmp .ge 25, 3) := by decide +kernel
theorem dX12_netOf_12 : decode cX12_netOf 12 = .ok (.iload_n 2, 1) := by decide +kernel
theorem dX12_netOf_13 : decode cX12_netOf 13 = .ok (.aload_n 0, 1) := by decide +kernel
theorem dX12_netOf_14 : decode cX12_netOf 14 = .ok (.iload_n 3, 1) := by decide +kernel
theorem dX12_netOf_15 : decode cX12_netOf 15 = .ok (.iload_n 1, 1) := by decide +kernel
theorem dX12_netOf_16 : decode cX12_netOf 16 = .ok (.invokevirtual 329, 3) := by decide +kernel
theorem dX12_netOf_19 : decode cX12_netOf 19 = .ok (.aload_n 0, 1) := by decide +kernel
theorem dX12_netOf_20 : decode cX12_netOf 20 = .ok (.iload_n 1, 1) := by decide +kernel
theorem dX12_netOf_21 : decode cX12_netOf 21 = .ok (.iload_n 3, 1) := by decide +kernel
theorem dX12_netOf_22 : decode cX12_netOf 22 = .ok (.invokevirtual 329, 3) := by decide +kernel
theorem dX12_netOf_25 : decode cX12_netOf 25 = .ok (.isub, 1) := by decide +kernel
theorem dX12_netOf_26 : decode cX12_netOf 26 = .ok (.iadd, 1) := by decide +kernel
theorem dX12_netOf_27 : decode cX12_netOf 27 = .ok (.istore_n 2, 1) := by decide +kernel
theorem dX12_netOf_28 : decode cX12_netOf 28 = .ok (.iinc 3 1, 3) := by decide +kernel
theorem dX12_netOf_31 : decode cX12_netOf 31 = .ok (.goto (-27), 3) := by decide +kernel
theorem dX12_netOf_34 : decode cX12_netOf 34 = .ok (.iload_n 2, 1) := by decide +kernel
theorem dX12_netOf_35 : decode cX12_netOf 35 = .ok (.ireturn, 1) := by decide +kernel
theorem dX12_worstDay_0 : decode cX12_worstDay 0 = .ok (.iconst 0, 1) := by decide +kernel
theorem dX12_worstDay_1 : decode cX12_worstDay 1 = .ok (.istore_n 2, 1) := by decide +kernel
theorem dX12_worstDay_2 : decode cX12_worstDay 2 = .ok (.iconst 1, 1) := by decide +kernel
theorem dX12_worstDay_3 : decode cX12_worstDay 3 = .ok (.istore_n 3, 1) := by decide +kernel
theorem dX12_worstDay_4 : decode cX12_worstDay 4 = .ok (.iload_n 3, 1) := by decide +kernel
theorem dX12_worstDay_5 : decode cX12_worstDay 5 = .ok (.bipush 7, 2) := by decide +kernel
theorem dX12_worstDay_7 : decode cX12_worstDay 7 = .ok (.if_icmp .ge 36, 3) := by decide +kernel
theorem dX12_worstDay_10 : decode cX12_worstDay 10 = .ok (.aload_n 0, 1) := by decide +kernel
theorem dX12_worstDay_11 : decode cX12_worstDay 11 = .ok (.iload_n 1, 1) := by decide +kernel
theorem dX12_worstDay_12 : decode cX12_worstDay 12 = .ok (.bipush 6, 2) := by decide +kernel
theorem dX12_worstDay_14 : decode cX12_worstDay 14 = .ok (.iload_n 3, 1) := by decide +kernel
theorem dX12_worstDay_15 : decode cX12_worstDay 15 = .ok (.iadd, 1) := by decide +kernel
theorem dX12_worstDay_16 : decode cX12_worstDay 16 = .ok (.invokevirtual 68, 3) := by decide +kernel
theorem dX12_worstDay_19 : decode cX12_worstDay 19 = .ok (.aload_n 0, 1) := by decide +kernel
theorem dX12_worstDay_20 : decode cX12_worstDay 20 = .ok (.iload_n 1, 1) := by decide +kernel
theorem dX12_worstDay_21 : decode cX12_worstDay 21 = .ok (.bipush 6, 2) := by decide +kernel
theorem dX12_worstDay_23 : decode cX12_worstDay 23 = .ok (.iload_n 2, 1) := by decide +kernel
theorem dX12_worstDay_24 : decode cX12_worstDay 24 = .ok (.iadd, 1) := by decide +kernel
theorem dX12_worstDay_25 : decode cX12_worstDay 25 = .ok (.invokevirtual 68, 3) := by decide +kernel
theorem dX12_worstDay_28 : decode cX12_worstDay 28 = .ok (.if_icmp .le 7, 3) := by decide +kernel
theorem dX12_worstDay_31 : decode cX12_worstDay 31 = .ok (.iload_n 3, 1) := by decide +kernel
theorem dX12_worstDay_32 : decode cX12_worstDay 32 = .ok (.goto 4, 3) := by decide +kernel
theorem dX12_worstDay_35 : decode cX12_worstDay 35 = .ok (.iload_n 2, 1) := by decide +kernel
theorem dX12_worstDay_36 : decode cX12_worstDay 36 = .ok (.istore_n 2, 1) := by decide +kernel
theorem dX12_worstDay_37 : decode cX12_worstDay 37 = .ok (.iinc 3 1, 3) := by decide +kernel
theorem dX12_worstDay_40 : decode cX12_worstDay 40 = .ok (.goto (-36), 3) := by decide +kernel
theorem dX12_worstDay_43 : decode cX12_worstDay 43 = .ok (.iload_n 2, 1) := by decide +kernel
theorem dX12_worstDay_44 : decode cX12_worstDay 44 = .ok (.ireturn, 1) := by decide +kernel
theorem dX12_willOf_0 : decode cX12_willOf 0 = .ok (.iconst 0, 1) := by decide +kernel
theorem dX12_willOf_1 : decode cX12_willOf 1 = .ok (.istore_n 2, 1) := by decide +kernel
theorem dX12_willOf_2 : decode cX12_willOf 2 = .ok (.iconst 0, 1) := by decide +kernel
theorem dX12_willOf_3 : decode cX12_willOf 3 = .ok (.istore_n 3, 1) := by decide +kernel
theorem dX12_willOf_4 : decode cX12_willOf 4 = .ok (.iload_n 3, 1) := by decide +kernel
theorem dX12_willOf_5 : decode cX12_willOf 5 = .ok (.aload_n 0, 1) := by decide +kernel
theorem dX12_willOf_6 : decode cX12_willOf 6 = .ok (.invokevirtual 74, 3) := by decide +kernel
theorem dX12_willOf_9 : decode cX12_willOf 9 = .ok (.if_icmp .ge 40, 3) := by decide +kernel
theorem dX12_willOf_12 : decode cX12_willOf 12 = .ok (.iload_n 2, 1) := by decide +kernel
theorem dX12_willOf_13 : decode cX12_willOf 13 = .ok (.aload_n 0, 1) := by decide +kernel
theorem dX12_willOf_14 : decode cX12_willOf 14 = .ok (.iload_n 3, 1) := by decide +kernel
theorem dX12_willOf_15 : decode cX12_willOf 15 = .ok (.invokevirtual 296, 3) := by decide +kernel
theorem dX12_willOf_18 : decode cX12_willOf 18 = .ok (.ifCond .eq 22, 3) := by decide +kernel
theorem dX12_willOf_21 : decode cX12_willOf 21 = .ok (.aload_n 0, 1) := by decide +kernel
theorem dX12_willOf_22 : decode cX12_willOf 22 = .ok (.iload_n 3, 1) := by decide +kernel
theorem dX12_willOf_23 : decode cX12_willOf 23 = .ok (.iconst 4, 1) := by decide +kernel
theorem dX12_willOf_24 : decode cX12_willOf 24 = .ok (.invokevirtual 68, 3) := by decide +kernel
theorem dX12_willOf_27 : decode cX12_willOf 27 = .ok (.iload_n 1, 1) := by decide +kernel
theorem dX12_willOf_28 : decode cX12_willOf 28 = .ok (.if_icmp .ne 12, 3) := by decide +kernel
theorem dX12_willOf_31 : decode cX12_willOf 31 = .ok (.aload_n 0, 1) := by decide +kernel
theorem dX12_willOf_32 : decode cX12_willOf 32 = .ok (.iload_n 3, 1) := by decide +kernel
theorem dX12_willOf_33 : decode cX12_willOf 33 = .ok (.iconst 1, 1) := by decide +kernel
theorem dX12_willOf_34 : decode cX12_willOf 34 = .ok (.invokevirtual 68, 3) := by decide +kernel
theorem dX12_willOf_37 : decode cX12_willOf 37 = .ok (.goto 4, 3) := by decide +kernel
theorem dX12_willOf_40 : decode cX12_willOf 40 = .ok (.iconst 0, 1) := by decide +kernel
theorem dX12_willOf_41 : decode cX12_willOf 41 = .ok (.iadd, 1) := by decide +kernel
theorem dX12_willOf_42 : decode cX12_willOf 42 = .ok (.istore_n 2, 1) := by decide +kernel
theorem dX12_willOf_43 : decode cX12_willOf 43 = .ok (.iinc 3 1, 3) := by decide +kernel
theorem dX12_willOf_46 : decode cX12_willOf 46 = .ok (.goto (-42), 3) := by decide +kernel
theorem dX12_willOf_49 : decode cX12_willOf 49 = .ok (.iload_n 2, 1) := by decide +kernel
theorem dX12_willOf_50 : decode cX12_willOf 50 = .ok (.ireturn, 1) := by decide +kernel
theorem dX12_heirsOf_0 : decode cX12_heirsOf 0 = .ok (.iconst 0, 1) := by decide +kernel
theorem dX12_heirsOf_1 : decode cX12_heirsOf 1 = .ok (.istore_n 2, 1) := by decide +kernel
theorem dX12_heirsOf_2 : decode cX12_heirsOf 2 = .ok (.aload_n 0, 1) := by decide +kernel
theorem dX12_heirsOf_3 : decode cX12_heirsOf 3 = .ok (.iload_n 1, 1) := by decide +kernel
theorem dX12_heirsOf_4 : decode cX12_heirsOf 4 = .ok (.iconst 4, 1) := by decide +kernel
theorem dX12_heirsOf_5 : decode cX12_heirsOf 5 = .ok (.invokevirtual 68, 3) := by decide +kernel
theorem dX12_heirsOf_8 : decode cX12_heirsOf 8 = .ok (.istore_n 3, 1) := by decide +kernel
theorem dX12_heirsOf_9 : decode cX12_heirsOf 9 = .ok (.iload_n 3, 1) := by decide +kernel
theorem dX12_heirsOf_10 : decode cX12_heirsOf 10 = .ok (.ifCond .lt 27, 3) := by decide +kernel
theorem dX12_heirsOf_13 : decode cX12_heirsOf 13 = .ok (.iload_n 2, 1) := by decide +kernel
theorem dX12_heirsOf_14 : decode cX12_heirsOf 14 = .ok (.iload_n 3, 1) := by decide +kernel
theorem dX12_heirsOf_15 : decode cX12_heirsOf 15 = .ok (.invokestatic 332, 3) := by decide +kernel
theorem dX12_heirsOf_18 : decode cX12_heirsOf 18 = .ok (.ifCond .ne 19, 3) := by decide +kernel
theorem dX12_heirsOf_21 : decode cX12_heirsOf 21 = .ok (.iload_n 2, 1) := by decide +kernel
theorem dX12_heirsOf_22 : decode cX12_heirsOf 22 = .ok (.iconst 1, 1) := by decide +kernel
theorem dX12_heirsOf_23 : decode cX12_heirsOf 23 = .ok (.iload_n 3, 1) := by decide +kernel
theorem dX12_heirsOf_24 : decode cX12_heirsOf 24 = .ok (.ishl, 1) := by decide +kernel
theorem dX12_heirsOf_25 : decode cX12_heirsOf 25 = .ok (.ior, 1) := by decide +kernel
theorem dX12_heirsOf_26 : decode cX12_heirsOf 26 = .ok (.istore_n 2, 1) := by decide +kernel
theorem dX12_heirsOf_27 : decode cX12_heirsOf 27 = .ok (.aload_n 0, 1) := by decide +kernel
theorem dX12_heirsOf_28 : decode cX12_heirsOf 28 = .ok (.iload_n 3, 1) := by decide +kernel
theorem dX12_heirsOf_29 : decode cX12_heirsOf 29 = .ok (.iconst 4, 1) := by decide +kernel
theorem dX12_heirsOf_30 : decode cX12_heirsOf 30 = .ok (.invokevirtual 68, 3) := by decide +kernel
theorem dX12_heirsOf_33 : decode cX12_heirsOf 33 = .ok (.istore_n 3, 1) := by decide +kernel
theorem dX12_heirsOf_34 : decode cX12_heirsOf 34 = .ok (.goto (-25), 3) := by decide +kernel
theorem dX12_heirsOf_37 : decode cX12_heirsOf 37 = .ok (.iload_n 2, 1) := by decide +kernel
theorem dX12_heirsOf_38 : decode cX12_heirsOf 38 = .ok (.ireturn, 1) := by decide +kernel
theorem dX12_person_0 : decode cX12_person 0 = .ok (.aload_n 0, 1) := by decide +kernel
theorem dX12_person_1 : decode cX12_person 1 = .ok (.iconst 0, 1) := by decide +kernel
theorem dX12_person_2 : decode cX12_person 2 = .ok (.putfield 3, 3) := by decide +kernel
theorem dX12_person_5 : decode cX12_person 5 = .ok (.aload_n 0, 1) := by decide +kernel
theorem dX12_person_6 : decode cX12_person 6 = .ok (.aload_n 0, 1) := by decide +kernel
theorem dX12_person_7 : decode cX12_person 7 = .ok (.iload_n 1, 1) := by decide +kernel
theorem dX12_person_8 : decode cX12_person 8 = .ok (.invokevirtual 335, 3) := by decide +kernel
theorem dX12_person_11 : decode cX12_person 11 = .ok (.iconst 1, 1) := by decide +kernel
theorem dX12_person_12 : decode cX12_person 12 = .ok (.invokevirtual 253, 3) := by decide +kernel
theorem dX12_person_15 : decode cX12_person 15 = .ok (.ifCond .ne 26, 3) := by decide +kernel
theorem dX12_person_18 : decode cX12_person 18 = .ok (.aload_n 0, 1) := by decide +kernel
theorem dX12_person_19 : decode cX12_person 19 = .ok (.iload_n 2, 1) := by decide +kernel
theorem dX12_person_20 : decode cX12_person 20 = .ok (.iconst 0, 1) := by decide +kernel
theorem dX12_person_21 : decode cX12_person 21 = .ok (.bipush 9, 2) := by decide +kernel
theorem dX12_person_23 : decode cX12_person 23 = .ok (.invokestatic 78, 3) := by decide +kernel
theorem dX12_person_26 : decode cX12_person 26 = .ok (.ifCond .ne 7, 3) := by decide +kernel
theorem dX12_person_29 : decode cX12_person 29 = .ok (.iconst 1, 1) := by decide +kernel
theorem dX12_person_30 : decode cX12_person 30 = .ok (.goto 4, 3) := by decide +kernel
theorem dX12_person_33 : decode cX12_person 33 = .ok (.iconst 0, 1) := by decide +kernel
theorem dX12_person_34 : decode cX12_person 34 = .ok (.iconst 2, 1) := by decide +kernel
theorem dX12_person_35 : decode cX12_person 35 = .ok (.invokevirtual 253, 3) := by decide +kernel
theorem dX12_person_38 : decode cX12_person 38 = .ok (.ifCond .eq 5, 3) := by decide +kernel
theorem dX12_person_41 : decode cX12_person 41 = .ok (.iconst 0, 1) := by decide +kernel
theorem dX12_person_42 : decode cX12_person 42 = .ok (.ireturn, 1) := by decide +kernel
theorem dX12_person_43 : decode cX12_person 43 = .ok (.iload_n 2, 1) := by decide +kernel
theorem dX12_person_44 : decode cX12_person 44 = .ok (.tableswitch 82 3 9 #[44, 82, 82, 58, 64, 70, 76], 44) := by decide +kernel
theorem dX12_person_88 : decode cX12_person 88 = .ok (.aload_n 0, 1) := by decide +kernel
theorem dX12_person_89 : decode cX12_person 89 = .ok (.iload_n 1, 1) := by decide +kernel
theorem dX12_person_90 : decode cX12_person 90 = .ok (.invokevirtual 296, 3) := by decide +kernel
theorem dX12_person_93 : decode cX12_person 93 = .ok (.ifCond .eq 7, 3) := by decide +kernel
theorem dX12_person_96 : decode cX12_person 96 = .ok (.iconst 1, 1) := by decide +kernel
theorem dX12_person_97 : decode cX12_person 97 = .ok (.goto 4, 3) := by decide +kernel
theorem dX12_person_100 : decode cX12_person 100 = .ok (.iconst 0, 1) := by decide +kernel
theorem dX12_person_101 : decode cX12_person 101 = .ok (.ireturn, 1) := by decide +kernel
theorem dX12_person_102 : decode cX12_person 102 = .ok (.aload_n 0, 1) := by decide +kernel
theorem dX12_person_103 : decode cX12_person 103 = .ok (.iload_n 1, 1) := by decide +kernel
theorem dX12_person_104 : decode cX12_person 104 = .ok (.invokevirtual 338, 3) := by decide +kernel
theorem dX12_person_107 : decode cX12_person 107 = .ok (.ireturn, 1) := by decide +kernel
theorem dX12_person_108 : decode cX12_person 108 = .ok (.aload_n 0, 1) := by decide +kernel
theorem dX12_person_109 : decode cX12_person 109 = .ok (.iload_n 1, 1) := by decide +kernel
theorem dX12_person_110 : decode cX12_person 110 = .ok (.invokevirtual 341, 3) := by decide +kernel
theorem dX12_person_113 : decode cX12_person 113 = .ok (.ireturn, 1) := by decide +kernel
theorem dX12_person_114 : decode cX12_person 114 = .ok (.aload_n 0, 1) := by decide +kernel
theorem dX12_person_115 : decode cX12_person 115 = .ok (.iload_n 1, 1) := by decide +kernel
theorem dX12_person_116 : decode cX12_person 116 = .ok (.invokevirtual 344, 3) := by decide +kernel
theorem dX12_person_119 : decode cX12_person 119 = .ok (.ireturn, 1) := by decide +kernel
theorem dX12_person_120 : decode cX12_person 120 = .ok (.aload_n 0, 1) := by decide +kernel
theorem dX12_person_121 : decode cX12_person 121 = .ok (.iload_n 1, 1) := by decide +kernel
theorem dX12_person_122 : decode cX12_person 122 = .ok (.invokevirtual 347, 3) := by decide +kernel
theorem dX12_person_125 : decode cX12_person 125 = .ok (.ireturn, 1) := by decide +kernel
theorem dX12_person_126 : decode cX12_person 126 = .ok (.aload_n 0, 1) := by decide +kernel
theorem dX12_person_127 : decode cX12_person 127 = .ok (.iload_n 1, 1) := by decide +kernel
theorem dX12_person_128 : decode cX12_person 128 = .ok (.iload_n 2, 1) := by decide +kernel
theorem dX12_person_129 : decode cX12_person 129 = .ok (.invokevirtual 68, 3) := by decide +kernel
theorem dX12_person_132 : decode cX12_person 132 = .ok (.ireturn, 1) := by decide +kernel
theorem dX12_pain_0 : decode cX12_pain 0 = .ok (.aload_n 0, 1) := by decide +kernel
theorem dX12_pain_1 : decode cX12_pain 1 = .ok (.iconst 0, 1) := by decide +kernel
theorem dX12_pain_2 : decode cX12_pain 2 = .ok (.putfield 3, 3) := by decide +kernel
theorem dX12_pain_5 : decode cX12_pain 5 = .ok (.aload_n 0, 1) := by decide +kernel
theorem dX12_pain_6 : decode cX12_pain 6 = .ok (.aload_n 0, 1) := by decide +kernel
theorem dX12_pain_7 : decode cX12_pain 7 = .ok (.iload_n 1, 1) := by decide +kernel
theorem dX12_pain_8 : decode cX12_pain 8 = .ok (.invokevirtual 335, 3) := by decide +kernel
theorem dX12_pain_11 : decode cX12_pain 11 = .ok (.ifCond .ne 13, 3) := by decide +kernel
theorem dX12_pain_14 : decode cX12_pain 14 = .ok (.iload_n 2, 1) := by decide +kernel
theorem dX12_pain_15 : decode cX12_pain 15 = .ok (.iconst 0, 1) := by decide +kernel
theorem dX12_pain_16 : decode cX12_pain 16 = .ok (.bipush 6, 2) := by decide +kernel
theorem dX12_pain_18 : decode cX12_pain 18 = .ok (.invokestatic 78, 3) := by decide +kernel
theorem dX12_pain_21 : decode cX12_pain 21 = .ok (.ifCond .ne 7, 3) := by decide +kernel
theorem dX12_pain_24 : decode cX12_pain 24 = .ok (.iconst 1, 1) := by decide +kernel
theorem dX12_pain_25 : decode cX12_pain 25 = .ok (.goto 4, 3) := by decide +kernel
theorem dX12_pain_28 : decode cX12_pain 28 = .ok (.iconst 0, 1) := by decide +kernel
theorem dX12_pain_29 : decode cX12_pain 29 = .ok (.iconst 1, 1) := by decide +kernel
theorem dX12_pain_30 : decode cX12_pain 30 = .ok (.invokevirtual 253, 3) := by decide +kernel
theorem dX12_pain_33 : decode cX12_pain 33 = .ok (.ifCond .eq 7, 3) := by decide +kernel
theorem dX12_pain_36 : decode cX12_pain 36 = .ok (.iconst 0, 1) := by decide +kernel
theorem dX12_pain_37 : decode cX12_pain 37 = .ok (.goto 12, 3) := by decide +kernel
theorem dX12_pain_40 : decode cX12_pain 40 = .ok (.aload_n 0, 1) := by decide +kernel
theorem dX12_pain_41 : decode cX12_pain 41 = .ok (.iload_n 1, 1) := by decide +kernel
theorem dX12_pain_42 : decode cX12_pain 42 = .ok (.bipush 6, 2) := by decide +kernel
theorem dX12_pain_44 : decode cX12_pain 44 = .ok (.iload_n 2, 1) := by decide +kernel
theorem dX12_pain_45 : decode cX12_pain 45 = .ok (.iadd, 1) := by decide +kernel
theorem dX12_pain_46 : decode cX12_pain 46 = .ok (.invokevirtual 68, 3) := by decide +kernel
theorem dX12_pain_49 : decode cX12_pain 49 = .ok (.ireturn, 1) := by decide +kernel
theorem dX12_owed_0 : decode cX12_owed 0 = .ok (.aload_n 0, 1) := by decide +kernel
theorem dX12_owed_1 : decode cX12_owed 1 = .ok (.iconst 0, 1) := by decide +kernel
theorem dX12_owed_2 : decode cX12_owed 2 = .ok (.putfield 3, 3) := by decide +kernel
theorem dX12_owed_5 : decode cX12_owed 5 = .ok (.aload_n 0, 1) := by decide +kernel
theorem dX12_owed_6 : decode cX12_owed 6 = .ok (.aload_n 0, 1) := by decide +kernel
theorem dX12_owed_7 : decode cX12_owed 7 = .ok (.iload_n 1, 1) := by decide +kernel
theorem dX12_owed_8 : decode cX12_owed 8 = .ok (.invokevirtual 335, 3) := by decide +kernel
theorem dX12_owed_11 : decode cX12_owed 11 = .ok (.ifCond .ne 11, 3) := by decide +kernel
theorem dX12_owed_14 : decode cX12_owed 14 = .ok (.aload_n 0, 1) := by decide +kernel
theorem dX12_owed_15 : decode cX12_owed 15 = .ok (.iload_n 2, 1) := by decide +kernel
theorem dX12_owed_16 : decode cX12_owed 16 = .ok (.invokevirtual 335, 3) := by decide +kernel
theorem dX12_owed_19 : decode cX12_owed 19 = .ok (.ifCond .eq 7, 3) := by decide +kernel
theorem dX12_owed_22 : decode cX12_owed 22 = .ok (.iconst 1, 1) := by decide +kernel
theorem dX12_owed_23 : decode cX12_owed 23 = .ok (.goto 4, 3) := by decide +kernel
theorem dX12_owed_26 : decode cX12_owed 26 = .ok (.iconst 0, 1) := by decide +kernel
theorem dX12_owed_27 : decode cX12_owed 27 = .ok (.iconst 1, 1) := by decide +kernel
theorem dX12_owed_28 : decode cX12_owed 28 = .ok (.invokevirtual 253, 3) := by decide +kernel
theorem dX12_owed_31 : decode cX12_owed 31 = .ok (.ifCond .ne 21, 3) := by decide +kernel
theorem dX12_owed_34 : decode cX12_owed 34 = .ok (.aload_n 0, 1) := by decide +kernel
theorem dX12_owed_35 : decode cX12_owed 35 = .ok (.iload_n 1, 1) := by decide +kernel
theorem dX12_owed_36 : decode cX12_owed 36 = .ok (.iload_n 2, 1) := by decide +kernel
theorem dX12_owed_37 : decode cX12_owed 37 = .ok (.if_icmp .ne 7, 3) := by decide +kernel
theorem dX12_owed_40 : decode cX12_owed 40 = .ok (.iconst 1, 1) := by decide +kernel
theorem dX12_owed_41 : decode cX12_owed 41 = .ok (.goto 4, 3) := by decide +kernel
theorem dX12_owed_44 : decode cX12_owed 44 = .ok (.iconst 0, 1) := by decide +kernel
theorem dX12_owed_45 : decode cX12_owed 45 = .ok (.iconst 2, 1) := by decide +kernel
theorem dX12_owed_46 : decode cX12_owed 46 = .ok (.invokevirtual 253, 3) := by decide +kernel
theorem dX12_owed_49 : decode cX12_owed 49 = .ok (.ifCond .eq 7, 3) := by decide +kernel
theorem dX12_owed_52 : decode cX12_owed 52 = .ok (.iconst 0, 1) := by decide +kernel
theorem dX12_owed_53 : decode cX12_owed 53 = .ok (.goto 9, 3) := by decide +kernel
theorem dX12_owed_56 : decode cX12_owed 56 = .ok (.aload_n 0, 1) := by decide +kernel
theorem dX12_owed_57 : decode cX12_owed 57 = .ok (.iload_n 1, 1) := by decide +kernel
theorem dX12_owed_58 : decode cX12_owed 58 = .ok (.iload_n 2, 1) := by decide +kernel
theorem dX12_owed_59 : decode cX12_owed 59 = .ok (.invokevirtual 329, 3) := by decide +kernel
theorem dX12_owed_62 : decode cX12_owed 62 = .ok (.ireturn, 1) := by decide +kernel
theorem dX12_today_0 : decode cX12_today 0 = .ok (.aload_n 0, 1) := by decide +kernel
theorem dX12_today_1 : decode cX12_today 1 = .ok (.iconst 0, 1) := by decide +kernel
theorem dX12_today_2 : decode cX12_today 2 = .ok (.putfield 3, 3) := by decide +kernel
theorem dX12_today_5 : decode cX12_today 5 = .ok (.aload_n 0, 1) := by decide +kernel
theorem dX12_today_6 : decode cX12_today 6 = .ok (.aload_n 0, 1) := by decide +kernel
theorem dX12_today_7 : decode cX12_today 7 = .ok (.iload_n 1, 1) := by decide +kernel
theorem dX12_today_8 : decode cX12_today 8 = .ok (.invokevirtual 335, 3) := by decide +kernel
theorem dX12_today_11 : decode cX12_today 11 = .ok (.iconst 1, 1) := by decide +kernel
theorem dX12_today_12 : decode cX12_today 12 = .ok (.invokevirtual 253, 3) := by decide +kernel
theorem dX12_today_15 : decode cX12_today 15 = .ok (.ifCond .ne 46, 3) := by decide +kernel
theorem dX12_today_18 : decode cX12_today 18 = .ok (.aload_n 0, 1) := by decide +kernel
theorem dX12_today_19 : decode cX12_today 19 = .ok (.aload_n 0, 1) := by decide +kernel
theorem dX12_today_20 : decode cX12_today 20 = .ok (.iload_n 1, 1) := by decide +kernel
theorem dX12_today_21 : decode cX12_today 21 = .ok (.invokevirtual 296, 3) := by decide +kernel
theorem dX12_today_24 : decode cX12_today 24 = .ok (.ifCond .ne 7, 3) := by decide +kernel
theorem dX12_today_27 : decode cX12_today 27 = .ok (.iconst 1, 1) := by decide +kernel
theorem dX12_today_28 : decode cX12_today 28 = .ok (.goto 4, 3) := by decide +kernel
theorem dX12_today_31 : decode cX12_today 31 = .ok (.iconst 0, 1) := by decide +kernel
theorem dX12_today_32 : decode cX12_today 32 = .ok (.iconst 2, 1) := by decide +kernel
theorem dX12_today_33 : decode cX12_today 33 = .ok (.invokevirtual 253, 3) := by decide +kernel
theorem dX12_today_36 : decode cX12_today 36 = .ok (.ifCond .ne 25, 3) := by decide +kernel
theorem dX12_today_39 : decode cX12_today 39 = .ok (.aload_n 0, 1) := by decide +kernel
theorem dX12_today_40 : decode cX12_today 40 = .ok (.iload_n 2, 1) := by decide +kernel
theorem dX12_today_41 : decode cX12_today 41 = .ok (.iconst 0, 1) := by decide +kernel
theorem dX12_today_42 : decode cX12_today 42 = .ok (.iconst 2, 1) := by decide +kernel
theorem dX12_today_43 : decode cX12_today 43 = .ok (.invokestatic 78, 3) := by decide +kernel
theorem dX12_today_46 : decode cX12_today 46 = .ok (.ifCond .ne 7, 3) := by decide +kernel
theorem dX12_today_49 : decode cX12_today 49 = .ok (.iconst 1, 1) := by decide +kernel
theorem dX12_today_50 : decode cX12_today 50 = .ok (.goto 4, 3) := by decide +kernel
theorem dX12_today_53 : decode cX12_today 53 = .ok (.iconst 0, 1) := by decide +kernel
theorem dX12_today_54 : decode cX12_today 54 = .ok (.iconst 3, 1) := by decide +kernel
theorem dX12_today_55 : decode cX12_today 55 = .ok (.invokevirtual 253, 3) := by decide +kernel
theorem dX12_today_58 : decode cX12_today 58 = .ok (.ifCond .eq 5, 3) := by decide +kernel
theorem dX12_today_61 : decode cX12_today 61 = .ok (.iconst 0, 1) := by decide +kernel
theorem dX12_today_62 : decode cX12_today 62 = .ok (.ireturn, 1) := by decide +kernel
theorem dX12_today_63 : decode cX12_today 63 = .ok (.aload_n 0, 1) := by decide +kernel
theorem dX12_today_64 : decode cX12_today 64 = .ok (.invokevirtual 350, 3) := by decide +kernel
theorem dX12_today_67 : decode cX12_today 67 = .ok (.aload_n 0, 1) := by decide +kernel
theorem dX12_today_68 : decode cX12_today 68 = .ok (.iconst 1, 1) := by decide +kernel
theorem dX12_today_69 : decode cX12_today 69 = .ok (.invokevirtual 325, 3) := by decide +kernel
theorem dX12_today_72 : decode cX12_today 72 = .ok (.aload_n 0, 1) := by decide +kernel
theorem dX12_today_73 : decode cX12_today 73 = .ok (.invokevirtual 353, 3) := by decide +kernel
theorem dX12_today_76 : decode cX12_today 76 = .ok (.iload_n 2, 1) := by decide +kernel
theorem dX12_today_77 : decode cX12_today 77 = .ok (.ifCond .ne 12, 3) := by decide +kernel
theorem dX12_today_80 : decode cX12_today 80 = .ok (.aload_n 0, 1) := by decide +kernel
theorem dX12_today_81 : decode cX12_today 81 = .ok (.getfield 42, 3) := by decide +kernel
theorem dX12_today_84 : decode cX12_today 84 = .ok (.iload_n 1, 1) := by decide +kernel
theorem dX12_today_85 : decode cX12_today 85 = .ok (.iaload, 1) := by decide +kernel
theorem dX12_today_86 : decode cX12_today 86 = .ok (.goto 23, 3) := by decide +kernel
theorem dX12_today_89 : decode cX12_today 89 = .ok (.iload_n 2, 1) := by decide +kernel
theorem dX12_today_90 : decode cX12_today 90 = .ok (.iconst 1, 1) := by decide +kernel
theorem dX12_today_91 : decode cX12_today 91 = .ok (.if_icmp .ne 12, 3) := by decide +kernel
theorem dX12_today_94 : decode cX12_today 94 = .ok (.aload_n 0, 1) := by decide +kernel
theorem dX12_today_95 : decode cX12_today 95 = .ok (.getfield 45, 3) := by decide +kernel
theorem dX12_today_98 : decode cX12_today 98 = .ok (.iload_n 1, 1) := by decide +kernel
theorem dX12_today_99 : decode cX12_today 99 = .ok (.iaload, 1) := by decide +kernel
theorem dX12_today_100 : decode cX12_today 100 = .ok (.goto 9, 3) := by decide +kernel
theorem dX12_today_103 : decode cX12_today 103 = .ok (.aload_n 0, 1) := by decide +kernel
theorem dX12_today_104 : decode cX12_today 104 = .ok (.getfield 48, 3) := by decide +kernel
theorem dX12_today_107 : decode cX12_today 107 = .ok (.iload_n 1, 1) := by decide +kernel
theorem dX12_today_108 : decode cX12_today 108 = .ok (.iaload, 1) := by decide +kernel
theorem dX12_today_109 : decode cX12_today 109 = .ok (.ireturn, 1) := by decide +kernel
theorem dX12_put_0 : decode cX12_put 0 = .ok (.aload_n 0, 1) := by decide +kernel
theorem dX12_put_1 : decode cX12_put 1 = .ok (.iconst 0, 1) := by decide +kernel
theorem dX12_put_2 : decode cX12_put 2 = .ok (.putfield 3, 3) := by decide +kernel
theorem dX12_put_5 : decode cX12_put 5 = .ok (.aload_n 0, 1) := by decide +kernel
theorem dX12_put_6 : decode cX12_put 6 = .ok (.aload_n 0, 1) := by decide +kernel
theorem dX12_put_7 : decode cX12_put 7 = .ok (.iload_n 1, 1) := by decide +kernel
theorem dX12_put_8 : decode cX12_put 8 = .ok (.invokevirtual 335, 3) := by decide +kernel
theorem dX12_put_11 : decode cX12_put 11 = .ok (.iconst 1, 1) := by decide +kernel
theorem dX12_put_12 : decode cX12_put 12 = .ok (.invokevirtual 253, 3) := by decide +kernel
theorem dX12_put_15 : decode cX12_put 15 = .ok (.ifCond .ne 68, 3) := by decide +kernel
theorem dX12_put_18 : decode cX12_put 18 = .ok (.aload_n 0, 1) := by decide +kernel
theorem dX12_put_19 : decode cX12_put 19 = .ok (.iload_n 2, 1) := by decide +kernel
theorem dX12_put_20 : decode cX12_put 20 = .ok (.iconst 1, 1) := by decide +kernel
theorem dX12_put_21 : decode cX12_put 21 = .ok (.sipush 9999, 3) := by decide +kernel
theorem dX12_put_24 : decode cX12_put 24 = .ok (.invokestatic 78, 3) := by decide +kernel
theorem dX12_put_27 : decode cX12_put 27 = .ok (.ifCond .eq 16, 3) := by decide +kernel
theorem dX12_put_30 : decode cX12_put 30 = .ok (.aload_n 0, 1) := by decide +kernel
theorem dX12_put_31 : decode cX12_put 31 = .ok (.iload_n 1, 1) := by decide +kernel
theorem dX12_put_32 : decode cX12_put 32 = .ok (.iconst 1, 1) := by decide +kernel
theorem dX12_put_33 : decode cX12_put 33 = .ok (.invokevirtual 68, 3) := by decide +kernel
theorem dX12_put_36 : decode cX12_put 36 = .ok (.iload_n 2, 1) := by decide +kernel
theorem dX12_put_37 : decode cX12_put 37 = .ok (.iadd, 1) := by decide +kernel
theorem dX12_put_38 : decode cX12_put 38 = .ok (.ldc 140, 2) := by decide +kernel
theorem dX12_put_40 : decode cX12_put 40 = .ok (.if_icmp .le 7, 3) := by decide +kernel
theorem dX12_put_43 : decode cX12_put 43 = .ok (.iconst 1, 1) := by decide +kernel
theorem dX12_put_44 : decode cX12_put 44 = .ok (.goto 4, 3) := by decide +kernel
theorem dX12_put_47 : decode cX12_put 47 = .ok (.iconst 0, 1) := by decide +kernel
theorem dX12_put_48 : decode cX12_put 48 = .ok (.iconst 2, 1) := by decide +kernel
theorem dX12_put_49 : decode cX12_put 49 = .ok (.invokevirtual 253, 3) := by decide +kernel
theorem dX12_put_52 : decode cX12_put 52 = .ok (.ifCond .ne 31, 3) := by decide +kernel
theorem dX12_put_55 : decode cX12_put 55 = .ok (.aload_n 0, 1) := by decide +kernel
theorem dX12_put_56 : decode cX12_put 56 = .ok (.aload_n 0, 1) := by decide +kernel
theorem dX12_put_57 : decode cX12_put 57 = .ok (.iload_n 1, 1) := by decide +kernel
theorem dX12_put_58 : decode cX12_put 58 = .ok (.invokevirtual 296, 3) := by decide +kernel
theorem dX12_put_61 : decode cX12_put 61 = .ok (.ifCond .eq 10, 3) := by decide +kernel
theorem dX12_put_64 : decode cX12_put 64 = .ok (.aload_n 0, 1) := by decide +kernel
theorem dX12_put_65 : decode cX12_put 65 = .ok (.invokevirtual 268, 3) := by decide +kernel
theorem dX12_put_68 : decode cX12_put 68 = .ok (.ifCond .eq 7, 3) := by decide +kernel
theorem dX12_put_71 : decode cX12_put 71 = .ok (.iconst 1, 1) := by decide +kernel
theorem dX12_put_72 : decode cX12_put 72 = .ok (.goto 4, 3) := by decide +kernel
theorem dX12_put_75 : decode cX12_put 75 = .ok (.iconst 0, 1) := by decide +kernel
theorem dX12_put_76 : decode cX12_put 76 = .ok (.iconst 3, 1) := by decide +kernel
theorem dX12_put_77 : decode cX12_put 77 = .ok (.invokevirtual 253, 3) := by decide +kernel
theorem dX12_put_80 : decode cX12_put 80 = .ok (.ifCond .eq 5, 3) := by decide +kernel
theorem dX12_put_83 : decode cX12_put 83 = .ok (.iconst 0, 1) := by decide +kernel
theorem dX12_put_84 : decode cX12_put 84 = .ok (.ireturn, 1) := by decide +kernel
theorem dX12_put_85 : decode cX12_put 85 = .ok (.aload_n 0, 1) := by decide +kernel
theorem dX12_put_86 : decode cX12_put 86 = .ok (.invokevirtual 356, 3) := by decide +kernel
theorem dX12_put_89 : decode cX12_put 89 = .ok (.aload_n 0, 1) := by decide +kernel
theorem dX12_put_90 : decode cX12_put 90 = .ok (.getfield 13, 3) := by decide +kernel
theorem dX12_put_93 : decode cX12_put 93 = .ok (.iload_n 1, 1) := by decide +kernel
theorem dX12_put_94 : decode cX12_put 94 = .ok (.iconst 1, 1) := by decide +kernel
theorem dX12_put_95 : decode cX12_put 95 = .ok (.invokestatic 64, 3) := by decide +kernel
theorem dX12_put_98 : decode cX12_put 98 = .ok (.dup2, 1) := by decide +kernel
theorem dX12_put_99 : decode cX12_put 99 = .ok (.iaload, 1) := by decide +kernel
theorem dX12_put_100 : decode cX12_put 100 = .ok (.iload_n 2, 1) := by decide +kernel
theorem dX12_put_101 : decode cX12_put 101 = .ok (.iadd, 1) := by decide +kernel
theorem dX12_put_102 : decode cX12_put 102 = .ok (.iastore, 1) := by decide +kernel
theorem dX12_put_103 : decode cX12_put 103 = .ok (.aload_n 0, 1) := by decide +kernel
theorem dX12_put_104 : decode cX12_put 104 = .ok (.iload_n 1, 1) := by decide +kernel
theorem dX12_put_105 : decode cX12_put 105 = .ok (.iconst 1, 1) := by decide +kernel
theorem dX12_put_106 : decode cX12_put 106 = .ok (.invokevirtual 68, 3) := by decide +kernel
theorem dX12_put_109 : decode cX12_put 109 = .ok (.ireturn, 1) := by decide +kernel
theorem dX12_draw_0 : decode cX12_draw 0 = .ok (.aload_n 0, 1) := by decide +kernel
theorem dX12_draw_1 : decode cX12_draw 1 = .ok (.iconst 0, 1) := by decide +kernel
theorem dX12_draw_2 : decode cX12_draw 2 = .ok (.putfield 3, 3) := by decide +kernel
theorem dX12_draw_5 : decode cX12_draw 5 = .ok (.aload_n 0, 1) := by decide +kernel
theorem dX12_draw_6 : decode cX12_draw 6 = .ok (.aload_n 0, 1) := by decide +kernel
theorem dX12_draw_7 : decode cX12_draw 7 = .ok (.iload_n 1, 1) := by decide +kernel
theorem dX12_draw_8 : decode cX12_draw 8 = .ok (.invokevirtual 335, 3) := by decide +kernel
theorem dX12_draw_11 : decode cX12_draw 11 = .ok (.iconst 1, 1) := by decide +kernel
theorem dX12_draw_12 : decode cX12_draw 12 = .ok (.invokevirtual 253, 3) := by decide +kernel
theorem dX12_draw_15 : decode cX12_draw 15 = .ok (.ifCond .ne 58, 3) := by decide +kernel
theorem dX12_draw_18 : decode cX12_draw 18 = .ok (.aload_n 0, 1) := by decide +kernel
theorem dX12_draw_19 : decode cX12_draw 19 = .ok (.iload_n 2, 1) := by decide +kernel
theorem dX12_draw_20 : decode cX12_draw 20 = .ok (.iconst 1, 1) := by decide +kernel
theorem dX12_draw_21 : decode cX12_draw 21 = .ok (.aload_n 0, 1) := by decide +kernel
theorem dX12_draw_22 : decode cX12_draw 22 = .ok (.iload_n 1, 1) := by decide +kernel
theorem dX12_draw_23 : decode cX12_draw 23 = .ok (.iconst 1, 1) := by decide +kernel
theorem dX12_draw_24 : decode cX12_draw 24 = .ok (.invokevirtual 68, 3) := by decide +kernel
theorem dX12_draw_27 : decode cX12_draw 27 = .ok (.invokestatic 78, 3) := by decide +kernel
theorem dX12_draw_30 : decode cX12_draw 30 = .ok (.ifCond .ne 7, 3) := by decide +kernel
theorem dX12_draw_33 : decode cX12_draw 33 = .ok (.iconst 1, 1) := by decide +kernel
theorem dX12_draw_34 : decode cX12_draw 34 = .ok (.goto 4, 3) := by decide +kernel
theorem dX12_draw_37 : decode cX12_draw 37 = .ok (.iconst 0, 1) := by decide +kernel
theorem dX12_draw_38 : decode cX12_draw 38 = .ok (.iconst 2, 1) := by decide +kernel
theorem dX12_draw_39 : decode cX12_draw 39 = .ok (.invokevirtual 253, 3) := by decide +kernel
theorem dX12_draw_42 : decode cX12_draw 42 = .ok (.ifCond .ne 31, 3) := by decide +kernel
theorem dX12_draw_45 : decode cX12_draw 45 = .ok (.aload_n 0, 1) := by decide +kernel
theorem dX12_draw_46 : decode cX12_draw 46 = .ok (.aload_n 0, 1) := by decide +kernel
theorem dX12_draw_47 : decode cX12_draw 47 = .ok (.iload_n 1, 1) := by decide +kernel
theorem dX12_draw_48 : decode cX12_draw 48 = .ok (.invokevirtual 296, 3) := by decide +kernel
theorem dX12_draw_51 : decode cX12_draw 51 = .ok (.ifCond .eq 10, 3) := by decide +kernel
theorem dX12_draw_54 : decode cX12_draw 54 = .ok (.aload_n 0, 1) := by decide +kernel
theorem dX12_draw_55 : decode cX12_draw 55 = .ok (.invokevirtual 268, 3) := by decide +kernel
theorem dX12_draw_58 : decode cX12_draw 58 = .ok (.ifCond .eq 7, 3) := by decide +kernel
theorem dX12_draw_61 : decode cX12_draw 61 = .ok (.iconst 1, 1) := by decide +kernel
theorem dX12_draw_62 : decode cX12_draw 62 = .ok (.goto 4, 3) := by decide +kernel
theorem dX12_draw_65 : decode cX12_draw 65 = .ok (.iconst 0, 1) := by decide +kernel
theorem dX12_draw_66 : decode cX12_draw 66 = .ok (.iconst 3, 1) := by decide +kernel
theorem dX12_draw_67 : decode cX12_draw 67 = .ok (.invokevirtual 253, 3) := by decide +kernel
theorem dX12_draw_70 : decode cX12_draw 70 = .ok (.ifCond .eq 5, 3) := by decide +kernel
theorem dX12_draw_73 : decode cX12_draw 73 = .ok (.iconst 0, 1) := by decide +kernel
theorem dX12_draw_74 : decode cX12_draw 74 = .ok (.ireturn, 1) := by decide +kernel
theorem dX12_draw_75 : decode cX12_draw 75 = .ok (.aload_n 0, 1) := by decide +kernel
theorem dX12_draw_76 : decode cX12_draw 76 = .ok (.invokevirtual 356, 3) := by decide +kernel
theorem dX12_draw_79 : decode cX12_draw 79 = .ok (.aload_n 0, 1) := by decide +kernel
theorem dX12_draw_80 : decode cX12_draw 80 = .ok (.iload_n 1, 1) := by decide +kernel
theorem dX12_draw_81 : decode cX12_draw 81 = .ok (.iload_n 2, 1) := by decide +kernel
theorem dX12_draw_82 : decode cX12_draw 82 = .ok (.invokevirtual 293, 3) := by decide +kernel
theorem dX12_draw_85 : decode cX12_draw 85 = .ok (.ireturn, 1) := by decide +kernel
theorem dX12_cheque_0 : decode cX12_cheque 0 = .ok (.aload_n 0, 1) := by decide +kernel
theorem dX12_cheque_1 : decode cX12_cheque 1 = .ok (.iconst 0, 1) := by decide +kernel
theorem dX12_cheque_2 : decode cX12_cheque 2 = .ok (.putfield 3, 3) := by decide +kernel
theorem dX12_cheque_5 : decode cX12_cheque 5 = .ok (.aload_n 0, 1) := by decide +kernel
theorem dX12_cheque_6 : decode cX12_cheque 6 = .ok (.aload_n 0, 1) := by decide +kernel
theorem dX12_cheque_7 : decode cX12_cheque 7 = .ok (.iload_n 1, 1) := by decide +kernel
theorem dX12_cheque_8 : decode cX12_cheque 8 = .ok (.invokevirtual 335, 3) := by decide +kernel
theorem dX12_cheque_11 : decode cX12_cheque 11 = .ok (.ifCond .ne 11, 3) := by decide +kernel
theorem dX12_cheque_14 : decode cX12_cheque 14 = .ok (.aload_n 0, 1) := by decide +kernel
theorem dX12_cheque_15 : decode cX12_cheque 15 = .ok (.iload_n 2, 1) := by decide +kernel
theorem dX12_cheque_16 : decode cX12_cheque 16 = .ok (.invokevirtual 335, 3) := by decide +kernel
theorem dX12_cheque_19 : decode cX12_cheque 19 = .ok (.ifCond .eq 7, 3) := by decide +kernel
theorem dX12_cheque_22 : decode cX12_cheque 22 = .ok (.iconst 1, 1) := by decide +kernel
theorem dX12_cheque_23 : decode cX12_cheque 23 = .ok (.goto 4, 3) := by decide +kernel
theorem dX12_cheque_26 : decode cX12_cheque 26 = .ok (.iconst 0, 1) := by decide +kernel
theorem dX12_cheque_27 : decode cX12_cheque 27 = .ok (.iconst 1, 1) := by decide +kernel
theorem dX12_cheque_28 : decode cX12_cheque 28 = .ok (.invokevirtual 253, 3) := by decide +kernel
theorem dX12_cheque_31 : decode cX12_cheque 31 = .ok (.ifCond .ne 84, 3) := by decide +kernel
theorem dX12_cheque_34 : decode cX12_cheque 34 = .ok (.aload_n 0, 1) := by decide +kernel
theorem dX12_cheque_35 : decode cX12_cheque 35 = .ok (.iload_n 1, 1) := by decide +kernel
theorem dX12_cheque_36 : decode cX12_cheque 36 = .ok (.iload_n 2, 1) := by decide +kernel
theorem dX12_cheque_37 : decode cX12_cheque 37 = .ok (.if_icmp .eq 30, 3) := by decide +kernel
theorem dX12_cheque_40 : decode cX12_cheque 40 = .ok (.iload_n 3, 1) := by decide +kernel
theorem dX12_cheque_41 : decode cX12_cheque 41 = .ok (.iconst 1, 1) := by decide +kernel
theorem dX12_cheque_42 : decode cX12_cheque 42 = .ok (.aload_n 0, 1) := by decide +kernel
theorem dX12_cheque_43 : decode cX12_cheque 43 = .ok (.iload_n 1, 1) := by decide +kernel
theorem dX12_cheque_44 : decode cX12_cheque 44 = .ok (.iconst 1, 1) := by decide +kernel
theorem dX12_cheque_45 : decode cX12_cheque 45 = .ok (.invokevirtual 68, 3) := by decide +kernel
theorem dX12_cheque_48 : decode cX12_cheque 48 = .ok (.invokestatic 78, 3) := by decide +kernel
theorem dX12_cheque_51 : decode cX12_cheque 51 = .ok (.ifCond .eq 16, 3) := by decide +kernel
theorem dX12_cheque_54 : decode cX12_cheque 54 = .ok (.aload_n 0, 1) := by decide +kernel
theorem dX12_cheque_55 : decode cX12_cheque 55 = .ok (.iload_n 2, 1) := by decide +kernel
theorem dX12_cheque_56 : decode cX12_cheque 56 = .ok (.iconst 1, 1) := by decide +kernel
theorem dX12_cheque_57 : decode cX12_cheque 57 = .ok (.invokevirtual 68, 3) := by decide +kernel
theorem dX12_cheque_60 : decode cX12_cheque 60 = .ok (.iload_n 3, 1) := by decide +kernel
theorem dX12_cheque_61 : decode cX12_cheque 61 = .ok (.iadd, 1) := by decide +kernel
theorem dX12_cheque_62 : decode cX12_cheque 62 = .ok (.ldc 140, 2) := by decide +kernel
theorem dX12_cheque_64 : decode cX12_cheque 64 = .ok (.if_icmp .le 7, 3) := by decide +kernel
theorem dX12_cheque_67 : decode cX12_cheque 67 = .ok (.iconst 1, 1) := by decide +kernel
theorem dX12_cheque_68 : decode cX12_cheque 68 = .ok (.goto 4, 3) := by decide +kernel
theorem dX12_cheque_71 : decode cX12_cheque 71 = .ok (.iconst 0, 1) := by decide +kernel
theorem dX12_cheque_72 : decode cX12_cheque 72 = .ok (.iconst 2, 1) := by decide +kernel
theorem dX12_cheque_73 : decode cX12_cheque 73 = .ok (.invokevirtual 253, 3) := by decide +kernel
theorem dX12_cheque_76 : decode cX12_cheque 76 = .ok (.ifCond .ne 39, 3) := by decide +kernel
theorem dX12_cheque_79 : decode cX12_cheque 79 = .ok (.aload_n 0, 1) := by decide +kernel
theorem dX12_cheque_80 : decode cX12_cheque 80 = .ok (.aload_n 0, 1) := by decide +kernel
theorem dX12_cheque_81 : decode cX12_cheque 81 = .ok (.iload_n 1, 1) := by decide +kernel
theorem dX12_cheque_82 : decode cX12_cheque 82 = .ok (.invokevirtual 296, 3) := by decide +kernel
theorem dX12_cheque_85 : decode cX12_cheque 85 = .ok (.ifCond .eq 18, 3) := by decide +kernel
theorem dX12_cheque_88 : decode cX12_cheque 88 = .ok (.aload_n 0, 1) := by decide +kernel
theorem dX12_cheque_89 : decode cX12_cheque 89 = .ok (.iload_n 2, 1) := by decide +kernel
theorem dX12_cheque_90 : decode cX12_cheque 90 = .ok (.invokevirtual 296, 3) := by decide +kernel
theorem dX12_cheque_93 : decode cX12_cheque 93 = .ok (.ifCond .eq 10, 3) := by decide +kernel
theorem dX12_cheque_96 : decode cX12_cheque 96 = .ok (.aload_n 0, 1) := by decide +kernel
theorem dX12_cheque_97 : decode cX12_cheque 97 = .ok (.invokevirtual 268, 3) := by decide +kernel
theorem dX12_cheque_100 : decode cX12_cheque 100 = .ok (.ifCond .eq 7, 3) := by decide +kernel
theorem dX12_cheque_103 : decode cX12_cheque 103 = .ok (.iconst 1, 1) := by decide +kernel
theorem dX12_cheque_104 : decode cX12_cheque 104 = .ok (.goto 4, 3) := by decide +kernel
theorem dX12_cheque_107 : decode cX12_cheque 107 = .ok (.iconst 0, 1) := by decide +kernel
theorem dX12_cheque_108 : decode cX12_cheque 108 = .ok (.iconst 3, 1) := by decide +kernel
theorem dX12_cheque_109 : decode cX12_cheque 109 = .ok (.invokevirtual 253, 3) := by decide +kernel
theorem dX12_cheque_112 : decode cX12_cheque 112 = .ok (.ifCond .eq 5, 3) := by decide +kernel
theorem dX12_cheque_115 : decode cX12_cheque 115 = .ok (.iconst 0, 1) := by decide +kernel
theorem dX12_cheque_116 : decode cX12_cheque 116 = .ok (.ireturn, 1) := by decide +kernel
theorem dX12_cheque_117 : decode cX12_cheque 117 = .ok (.aload_n 0, 1) := by decide +kernel
theorem dX12_cheque_118 : decode cX12_cheque 118 = .ok (.invokevirtual 356, 3) := by decide +kernel
theorem dX12_cheque_121 : decode cX12_cheque 121 = .ok (.aload_n 0, 1) := by decide +kernel
theorem dX12_cheque_122 : decode cX12_cheque 122 = .ok (.getfield 13, 3) := by decide +kernel
theorem dX12_cheque_125 : decode cX12_cheque 125 = .ok (.iload_n 1, 1) := by decide +kernel
theorem dX12_cheque_126 : decode cX12_cheque 126 = .ok (.iconst 1, 1) := by decide +kernel
theorem dX12_cheque_127 : decode cX12_cheque 127 = .ok (.invokestatic 64, 3) := by decide +kernel
theorem dX12_cheque_130 : decode cX12_cheque 130 = .ok (.dup2, 1) := by decide +kernel
theorem dX12_cheque_131 : decode cX12_cheque 131 = .ok (.iaload, 1) := by decide +kernel
theorem dX12_cheque_132 : decode cX12_cheque 132 = .ok (.iload_n 3, 1) := by decide +kernel
theorem dX12_cheque_133 : decode cX12_cheque 133 = .ok (.isub, 1) := by decide +kernel
theorem dX12_cheque_134 : decode cX12_cheque 134 = .ok (.iastore, 1) := by decide +kernel
theorem dX12_cheque_135 : decode cX12_cheque 135 = .ok (.aload_n 0, 1) := by decide +kernel
theorem dX12_cheque_136 : decode cX12_cheque 136 = .ok (.getfield 13, 3) := by decide +kernel
theorem dX12_cheque_139 : decode cX12_cheque 139 = .ok (.iload_n 2, 1) := by decide +kernel
theorem dX12_cheque_140 : decode cX12_cheque 140 = .ok (.iconst 1, 1) := by decide +kernel
theorem dX12_cheque_141 : decode cX12_cheque 141 = .ok (.invokestatic 64, 3) := by decide +kernel
theorem dX12_cheque_144 : decode cX12_cheque 144 = .ok (.dup2, 1) := by decide +kernel
theorem dX12_cheque_145 : decode cX12_cheque 145 = .ok (.iaload, 1) := by decide +kernel
theorem dX12_cheque_146 : decode cX12_cheque 146 = .ok (.iload_n 3, 1) := by decide +kernel
theorem dX12_cheque_147 : decode cX12_cheque 147 = .ok (.iadd, 1) := by decide +kernel
theorem dX12_cheque_148 : decode cX12_cheque 148 = .ok (.iastore, 1) := by decide +kernel
theorem dX12_cheque_149 : decode cX12_cheque 149 = .ok (.iconst 0, 1) := by decide +kernel
theorem dX12_cheque_150 : decode cX12_cheque 150 = .ok (.aload_n 0, 1) := by decide +kernel
theorem dX12_cheque_151 : decode cX12_cheque 151 = .ok (.iload_n 1, 1) := by decide +kernel
theorem dX12_cheque_152 : decode cX12_cheque 152 = .ok (.iconst 2, 1) := by decide +kernel
theorem dX12_cheque_153 : decode cX12_cheque 153 = .ok (.invokevirtual 68, 3) := by decide +kernel
theorem dX12_cheque_156 : decode cX12_cheque 156 = .ok (.aload_n 0, 1) := by decide +kernel
theorem dX12_cheque_157 : decode cX12_cheque 157 = .ok (.iload_n 1, 1) := by decide +kernel
theorem dX12_cheque_158 : decode cX12_cheque 158 = .ok (.iconst 1, 1) := by decide +kernel
theorem dX12_cheque_159 : decode cX12_cheque 159 = .ok (.invokevirtual 68, 3) := by decide +kernel
theorem dX12_cheque_162 : decode cX12_cheque 162 = .ok (.isub, 1) := by decide +kernel
theorem dX12_cheque_163 : decode cX12_cheque 163 = .ok (.invokestatic 280, 3) := by decide +kernel
theorem dX12_cheque_166 : decode cX12_cheque 166 = .ok (.istore 4, 2) := by decide +kernel
theorem dX12_cheque_168 : decode cX12_cheque 168 = .ok (.aload_n 0, 1) := by decide +kernel
theorem dX12_cheque_169 : decode cX12_cheque 169 = .ok (.getfield 13, 3) := by decide +kernel
theorem dX12_cheque_172 : decode cX12_cheque 172 = .ok (.iload_n 1, 1) := by decide +kernel
theorem dX12_cheque_173 : decode cX12_cheque 173 = .ok (.iconst 2, 1) := by decide +kernel
theorem dX12_cheque_174 : decode cX12_cheque 174 = .ok (.invokestatic 64, 3) := by decide +kernel
theorem dX12_cheque_177 : decode cX12_cheque 177 = .ok (.dup2, 1) := by decide +kernel
theorem dX12_cheque_178 : decode cX12_cheque 178 = .ok (.iaload, 1) := by decide +kernel
theorem dX12_cheque_179 : decode cX12_cheque 179 = .ok (.iload 4, 2) := by decide +kernel
theorem dX12_cheque_181 : decode cX12_cheque 181 = .ok (.isub, 1) := by decide +kernel
theorem dX12_cheque_182 : decode cX12_cheque 182 = .ok (.iastore, 1) := by decide +kernel
theorem dX12_cheque_183 : decode cX12_cheque 183 = .ok (.aload_n 0, 1) := by decide +kernel
theorem dX12_cheque_184 : decode cX12_cheque 184 = .ok (.getfield 13, 3) := by decide +kernel
theorem dX12_cheque_187 : decode cX12_cheque 187 = .ok (.iload_n 2, 1) := by decide +kernel
theorem dX12_cheque_188 : decode cX12_cheque 188 = .ok (.iconst 2, 1) := by decide +kernel
theorem dX12_cheque_189 : decode cX12_cheque 189 = .ok (.invokestatic 64, 3) := by decide +kernel
theorem dX12_cheque_192 : decode cX12_cheque 192 = .ok (.dup2, 1) := by decide +kernel
theorem dX12_cheque_193 : decode cX12_cheque 193 = .ok (.iaload, 1) := by decide +kernel
theorem dX12_cheque_194 : decode cX12_cheque 194 = .ok (.iload 4, 2) := by decide +kernel
theorem dX12_cheque_196 : decode cX12_cheque 196 = .ok (.iadd, 1) := by decide +kernel
theorem dX12_cheque_197 : decode cX12_cheque 197 = .ok (.iastore, 1) := by decide +kernel
theorem dX12_cheque_198 : decode cX12_cheque 198 = .ok (.aload_n 0, 1) := by decide +kernel
theorem dX12_cheque_199 : decode cX12_cheque 199 = .ok (.iload_n 2, 1) := by decide +kernel
theorem dX12_cheque_200 : decode cX12_cheque 200 = .ok (.iconst 1, 1) := by decide +kernel
theorem dX12_cheque_201 : decode cX12_cheque 201 = .ok (.invokevirtual 68, 3) := by decide +kernel
theorem dX12_cheque_204 : decode cX12_cheque 204 = .ok (.ireturn, 1) := by decide +kernel
theorem dX12_owe_0 : decode cX12_owe 0 = .ok (.aload_n 0, 1) := by decide +kernel
theorem dX12_owe_1 : decode cX12_owe 1 = .ok (.iconst 0, 1) := by decide +kernel
theorem dX12_owe_2 : decode cX12_owe 2 = .ok (.putfield 3, 3) := by decide +kernel
theorem dX12_owe_5 : decode cX12_owe 5 = .ok (.aload_n 0, 1) := by decide +kernel
theorem dX12_owe_6 : decode cX12_owe 6 = .ok (.aload_n 0, 1) := by decide +kernel
theorem dX12_owe_7 : decode cX12_owe 7 = .ok (.iload_n 1, 1) := by decide +kernel
theorem dX12_owe_8 : decode cX12_owe 8 = .ok (.invokevirtual 335, 3) := by decide +kernel
theorem dX12_owe_11 : decode cX12_owe 11 = .ok (.ifCond .ne 11, 3) := by decide +kernel
theorem dX12_owe_14 : decode cX12_owe 14 = .ok (.aload_n 0, 1) := by decide +kernel
theorem dX12_owe_15 : decode cX12_owe 15 = .ok (.iload_n 2, 1) := by decide +kernel
theorem dX12_owe_16 : decode cX12_owe 16 = .ok (.invokevirtual 335, 3) := by decide +kernel
theorem dX12_owe_19 : decode cX12_owe 19 = .ok (.ifCond .eq 7, 3) := by decide +kernel
theorem dX12_owe_22 : decode cX12_owe 22 = .ok (.iconst 1, 1) := by decide +kernel
theorem dX12_owe_23 : decode cX12_owe 23 = .ok (.goto 4, 3) := by decide +kernel
theorem dX12_owe_26 : decode cX12_owe 26 = .ok (.iconst 0, 1) := by decide +kernel
theorem dX12_owe_27 : decode cX12_owe 27 = .ok (.iconst 1, 1) := by decide +kernel
theorem dX12_owe_28 : decode cX12_owe 28 = .ok (.invokevirtual 253, 3) := by decide +kernel
theorem dX12_owe_31 : decode cX12_owe 31 = .ok (.ifCond .ne 59, 3) := by decide +kernel
theorem dX12_owe_34 : decode cX12_owe 34 = .ok (.aload_n 0, 1) := by decide +kernel
theorem dX12_owe_35 : decode cX12_owe 35 = .ok (.iload_n 1, 1) := by decide +kernel
theorem dX12_owe_36 : decode cX12_owe 36 = .ok (.iload_n 2, 1) := by decide +kernel
theorem dX12_owe_37 : decode cX12_owe 37 = .ok (.if_icmp .eq 14, 3) := by decide +kernel
theorem dX12_owe_40 : decode cX12_owe 40 = .ok (.iload_n 3, 1) := by decide +kernel
theorem dX12_owe_41 : decode cX12_owe 41 = .ok (.iconst 1, 1) := by decide +kernel
theorem dX12_owe_42 : decode cX12_owe 42 = .ok (.sipush 999, 3) := by decide +kernel
theorem dX12_owe_45 : decode cX12_owe 45 = .ok (.invokestatic 78, 3) := by decide +kernel
theorem dX12_owe_48 : decode cX12_owe 48 = .ok (.ifCond .ne 7, 3) := by decide +kernel
theorem dX12_owe_51 : decode cX12_owe 51 = .ok (.iconst 1, 1) := by decide +kernel
theorem dX12_owe_52 : decode cX12_owe 52 = .ok (.goto 4, 3) := by decide +kernel
theorem dX12_owe_55 : decode cX12_owe 55 = .ok (.iconst 0, 1) := by decide +kernel
theorem dX12_owe_56 : decode cX12_owe 56 = .ok (.iconst 2, 1) := by decide +kernel
theorem dX12_owe_57 : decode cX12_owe 57 = .ok (.invokevirtual 253, 3) := by decide +kernel
theorem dX12_owe_60 : decode cX12_owe 60 = .ok (.ifCond .ne 30, 3) := by decide +kernel
theorem dX12_owe_63 : decode cX12_owe 63 = .ok (.aload_n 0, 1) := by decide +kernel
theorem dX12_owe_64 : decode cX12_owe 64 = .ok (.aload_n 0, 1) := by decide +kernel
theorem dX12_owe_65 : decode cX12_owe 65 = .ok (.iload_n 1, 1) := by decide +kernel
theorem dX12_owe_66 : decode cX12_owe 66 = .ok (.iload_n 2, 1) := by decide +kernel
theorem dX12_owe_67 : decode cX12_owe 67 = .ok (.invokevirtual 329, 3) := by decide +kernel
theorem dX12_owe_70 : decode cX12_owe 70 = .ok (.iload_n 3, 1) := by decide +kernel
theorem dX12_owe_71 : decode cX12_owe 71 = .ok (.iadd, 1) := by decide +kernel
theorem dX12_owe_72 : decode cX12_owe 72 = .ok (.sipush 9999, 3) := by decide +kernel
theorem dX12_owe_75 : decode cX12_owe 75 = .ok (.if_icmp .le 7, 3) := by decide +kernel
theorem dX12_owe_78 : decode cX12_owe 78 = .ok (.iconst 1, 1) := by decide +kernel
theorem dX12_owe_79 : decode cX12_owe 79 = .ok (.goto 4, 3) := by decide +kernel
theorem dX12_owe_82 : decode cX12_owe 82 = .ok (.iconst 0, 1) := by decide +kernel
theorem dX12_owe_83 : decode cX12_owe 83 = .ok (.iconst 3, 1) := by decide +kernel
theorem dX12_owe_84 : decode cX12_owe 84 = .ok (.invokevirtual 253, 3) := by decide +kernel
