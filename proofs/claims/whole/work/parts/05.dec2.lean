theorem dX2_init_0 : decode cX2_init 0 = .ok (.aload_n 0, 1) := by decide +kernel
theorem dX2_init_1 : decode cX2_init 1 = .ok (.invokespecial 3, 3) := by decide +kernel
theorem dX2_init_4 : decode cX2_init 4 = .ok (.aload_n 0, 1) := by decide +kernel
theorem dX2_init_5 : decode cX2_init 5 = .ok (.sipush 361, 3) := by decide +kernel
theorem dX2_init_8 : decode cX2_init 8 = .ok (.newarray .int, 2) := by decide +kernel
theorem dX2_init_10 : decode cX2_init 10 = .ok (.putfield 9, 3) := by decide +kernel
theorem dX2_init_13 : decode cX2_init 13 = .ok (.aload_n 0, 1) := by decide +kernel
theorem dX2_init_14 : decode cX2_init 14 = .ok (.bipush 20, 2) := by decide +kernel
theorem dX2_init_16 : decode cX2_init 16 = .ok (.newarray .int, 2) := by decide +kernel
theorem dX2_init_18 : decode cX2_init 18 = .ok (.putfield 15, 3) := by decide +kernel
theorem dX2_init_21 : decode cX2_init 21 = .ok (.aload_n 0, 1) := by decide +kernel
theorem dX2_init_22 : decode cX2_init 22 = .ok (.bipush 20, 2) := by decide +kernel
theorem dX2_init_24 : decode cX2_init 24 = .ok (.newarray .int, 2) := by decide +kernel
theorem dX2_init_26 : decode cX2_init 26 = .ok (.putfield 18, 3) := by decide +kernel
theorem dX2_init_29 : decode cX2_init 29 = .ok (.aload_n 0, 1) := by decide +kernel
theorem dX2_init_30 : decode cX2_init 30 = .ok (.bipush 20, 2) := by decide +kernel
theorem dX2_init_32 : decode cX2_init 32 = .ok (.newarray .int, 2) := by decide +kernel
theorem dX2_init_34 : decode cX2_init 34 = .ok (.putfield 21, 3) := by decide +kernel
theorem dX2_init_37 : decode cX2_init 37 = .ok (.aload_n 0, 1) := by decide +kernel
theorem dX2_init_38 : decode cX2_init 38 = .ok (.new 24, 3) := by decide +kernel
theorem dX2_init_41 : decode cX2_init 41 = .ok (.dup, 1) := by decide +kernel
theorem dX2_init_42 : decode cX2_init 42 = .ok (.invokespecial 26, 3) := by decide +kernel
theorem dX2_init_45 : decode cX2_init 45 = .ok (.putfield 27, 3) := by decide +kernel
theorem dX2_init_48 : decode cX2_init 48 = .ok (.aload_n 0, 1) := by decide +kernel
theorem dX2_init_49 : decode cX2_init 49 = .ok (.new 24, 3) := by decide +kernel
theorem dX2_init_52 : decode cX2_init 52 = .ok (.dup, 1) := by decide +kernel
theorem dX2_init_53 : decode cX2_init 53 = .ok (.invokespecial 26, 3) := by decide +kernel
theorem dX2_init_56 : decode cX2_init 56 = .ok (.putfield 31, 3) := by decide +kernel
theorem dX2_init_59 : decode cX2_init 59 = .ok (.aload_n 0, 1) := by decide +kernel
theorem dX2_init_60 : decode cX2_init 60 = .ok (.sipush 385, 3) := by decide +kernel
theorem dX2_init_63 : decode cX2_init 63 = .ok (.newarray .long, 2) := by decide +kernel
theorem dX2_init_65 : decode cX2_init 65 = .ok (.putfield 34, 3) := by decide +kernel
theorem dX2_init_68 : decode cX2_init 68 = .ok (.aload_n 0, 1) := by decide +kernel
theorem dX2_init_69 : decode cX2_init 69 = .ok (.sipush 385, 3) := by decide +kernel
theorem dX2_init_72 : decode cX2_init 72 = .ok (.newarray .long, 2) := by decide +kernel
theorem dX2_init_74 : decode cX2_init 74 = .ok (.putfield 38, 3) := by decide +kernel
theorem dX2_init_77 : decode cX2_init 77 = .ok (.iconst 0, 1) := by decide +kernel
theorem dX2_init_78 : decode cX2_init 78 = .ok (.istore_n 1, 1) := by decide +kernel
theorem dX2_init_79 : decode cX2_init 79 = .ok (.iload_n 1, 1) := by decide +kernel
theorem dX2_init_80 : decode cX2_init 80 = .ok (.bipush 19, 2) := by decide +kernel
theorem dX2_init_82 : decode cX2_init 82 = .ok (.if_icmp .ge 72, 3) := by decide +kernel
theorem dX2_init_85 : decode cX2_init 85 = .ok (.aload_n 0, 1) := by decide +kernel
theorem dX2_init_86 : decode cX2_init 86 = .ok (.getfield 9, 3) := by decide +kernel
theorem dX2_init_89 : decode cX2_init 89 = .ok (.iload_n 1, 1) := by decide +kernel
theorem dX2_init_90 : decode cX2_init 90 = .ok (.bipush 19, 2) := by decide +kernel
theorem dX2_init_92 : decode cX2_init 92 = .ok (.imul, 1) := by decide +kernel
theorem dX2_init_93 : decode cX2_init 93 = .ok (.iconst 1, 1) := by decide +kernel
theorem dX2_init_94 : decode cX2_init 94 = .ok (.iastore, 1) := by decide +kernel
theorem dX2_init_95 : decode cX2_init 95 = .ok (.iconst 1, 1) := by decide +kernel
theorem dX2_init_96 : decode cX2_init 96 = .ok (.istore_n 2, 1) := by decide +kernel
theorem dX2_init_97 : decode cX2_init 97 = .ok (.iload_n 2, 1) := by decide +kernel
theorem dX2_init_98 : decode cX2_init 98 = .ok (.iload_n 1, 1) := by decide +kernel
theorem dX2_init_99 : decode cX2_init 99 = .ok (.if_icmp .gt 49, 3) := by decide +kernel
theorem dX2_init_102 : decode cX2_init 102 = .ok (.aload_n 0, 1) := by decide +kernel
theorem dX2_init_103 : decode cX2_init 103 = .ok (.getfield 9, 3) := by decide +kernel
theorem dX2_init_106 : decode cX2_init 106 = .ok (.iload_n 1, 1) := by decide +kernel
theorem dX2_init_107 : decode cX2_init 107 = .ok (.bipush 19, 2) := by decide +kernel
theorem dX2_init_109 : decode cX2_init 109 = .ok (.imul, 1) := by decide +kernel
theorem dX2_init_110 : decode cX2_init 110 = .ok (.iload_n 2, 1) := by decide +kernel
theorem dX2_init_111 : decode cX2_init 111 = .ok (.iadd, 1) := by decide +kernel
theorem dX2_init_112 : decode cX2_init 112 = .ok (.aload_n 0, 1) := by decide +kernel
theorem dX2_init_113 : decode cX2_init 113 = .ok (.getfield 9, 3) := by decide +kernel
theorem dX2_init_116 : decode cX2_init 116 = .ok (.iload_n 1, 1) := by decide +kernel
theorem dX2_init_117 : decode cX2_init 117 = .ok (.iconst 1, 1) := by decide +kernel
theorem dX2_init_118 : decode cX2_init 118 = .ok (.isub, 1) := by decide +kernel
theorem dX2_init_119 : decode cX2_init 119 = .ok (.bipush 19, 2) := by decide +kernel
theorem dX2_init_121 : decode cX2_init 121 = .ok (.imul, 1) := by decide +kernel
theorem dX2_init_122 : decode cX2_init 122 = .ok (.iload_n 2, 1) := by decide +kernel
theorem dX2_init_123 : decode cX2_init 123 = .ok (.iadd, 1) := by decide +kernel
theorem dX2_init_124 : decode cX2_init 124 = .ok (.iconst 1, 1) := by decide +kernel
theorem dX2_init_125 : decode cX2_init 125 = .ok (.isub, 1) := by decide +kernel
theorem dX2_init_126 : decode cX2_init 126 = .ok (.iaload, 1) := by decide +kernel
theorem dX2_init_127 : decode cX2_init 127 = .ok (.aload_n 0, 1) := by decide +kernel
theorem dX2_init_128 : decode cX2_init 128 = .ok (.getfield 9, 3) := by decide +kernel
theorem dX2_init_131 : decode cX2_init 131 = .ok (.iload_n 1, 1) := by decide +kernel
theorem dX2_init_132 : decode cX2_init 132 = .ok (.iconst 1, 1) := by decide +kernel
theorem dX2_init_133 : decode cX2_init 133 = .ok (.isub, 1) := by decide +kernel
theorem dX2_init_134 : decode cX2_init 134 = .ok (.bipush 19, 2) := by decide +kernel
theorem dX2_init_136 : decode cX2_init 136 = .ok (.imul, 1) := by decide +kernel
theorem dX2_init_137 : decode cX2_init 137 = .ok (.iload_n 2, 1) := by decide +kernel
theorem dX2_init_138 : decode cX2_init 138 = .ok (.iadd, 1) := by decide +kernel
theorem dX2_init_139 : decode cX2_init 139 = .ok (.iaload, 1) := by decide +kernel
theorem dX2_init_140 : decode cX2_init 140 = .ok (.iadd, 1) := by decide +kernel
theorem dX2_init_141 : decode cX2_init 141 = .ok (.iastore, 1) := by decide +kernel
theorem dX2_init_142 : decode cX2_init 142 = .ok (.iinc 2 1, 3) := by decide +kernel
theorem dX2_init_145 : decode cX2_init 145 = .ok (.goto (-48), 3) := by decide +kernel
theorem dX2_init_148 : decode cX2_init 148 = .ok (.iinc 1 1, 3) := by decide +kernel
theorem dX2_init_151 : decode cX2_init 151 = .ok (.goto (-72), 3) := by decide +kernel
theorem dX2_init_154 : decode cX2_init 154 = .ok (.return_, 1) := by decide +kernel
theorem dX2_chosenAt_0 : decode cX2_chosenAt 0 = .ok (.iload_n 1, 1) := by decide +kernel
theorem dX2_chosenAt_1 : decode cX2_chosenAt 1 = .ok (.ifCond .lt 33, 3) := by decide +kernel
theorem dX2_chosenAt_4 : decode cX2_chosenAt 4 = .ok (.iload_n 1, 1) := by decide +kernel
theorem dX2_chosenAt_5 : decode cX2_chosenAt 5 = .ok (.bipush 19, 2) := by decide +kernel
theorem dX2_chosenAt_7 : decode cX2_chosenAt 7 = .ok (.if_icmp .ge 27, 3) := by decide +kernel
theorem dX2_chosenAt_10 : decode cX2_chosenAt 10 = .ok (.iload_n 2, 1) := by decide +kernel
theorem dX2_chosenAt_11 : decode cX2_chosenAt 11 = .ok (.ifCond .lt 23, 3) := by decide +kernel
theorem dX2_chosenAt_14 : decode cX2_chosenAt 14 = .ok (.iload_n 2, 1) := by decide +kernel
theorem dX2_chosenAt_15 : decode cX2_chosenAt 15 = .ok (.bipush 19, 2) := by decide +kernel
theorem dX2_chosenAt_17 : decode cX2_chosenAt 17 = .ok (.if_icmp .ge 17, 3) := by decide +kernel
theorem dX2_chosenAt_20 : decode cX2_chosenAt 20 = .ok (.aload_n 0, 1) := by decide +kernel
theorem dX2_chosenAt_21 : decode cX2_chosenAt 21 = .ok (.getfield 9, 3) := by decide +kernel
theorem dX2_chosenAt_24 : decode cX2_chosenAt 24 = .ok (.iload_n 1, 1) := by decide +kernel
theorem dX2_chosenAt_25 : decode cX2_chosenAt 25 = .ok (.bipush 19, 2) := by decide +kernel
theorem dX2_chosenAt_27 : decode cX2_chosenAt 27 = .ok (.imul, 1) := by decide +kernel
theorem dX2_chosenAt_28 : decode cX2_chosenAt 28 = .ok (.iload_n 2, 1) := by decide +kernel
theorem dX2_chosenAt_29 : decode cX2_chosenAt 29 = .ok (.iadd, 1) := by decide +kernel
theorem dX2_chosenAt_30 : decode cX2_chosenAt 30 = .ok (.iaload, 1) := by decide +kernel
theorem dX2_chosenAt_31 : decode cX2_chosenAt 31 = .ok (.goto 4, 3) := by decide +kernel
theorem dX2_chosenAt_34 : decode cX2_chosenAt 34 = .ok (.iconst 0, 1) := by decide +kernel
theorem dX2_chosenAt_35 : decode cX2_chosenAt 35 = .ok (.ireturn, 1) := by decide +kernel
theorem dX2_choicesBetween_0 : decode cX2_choicesBetween 0 = .ok (.aload_n 1, 1) := by decide +kernel
theorem dX2_choicesBetween_1 : decode cX2_choicesBetween 1 = .ok (.getfield 41, 3) := by decide +kernel
theorem dX2_choicesBetween_4 : decode cX2_choicesBetween 4 = .ok (.aload_n 2, 1) := by decide +kernel
theorem dX2_choicesBetween_5 : decode cX2_choicesBetween 5 = .ok (.getfield 41, 3) := by decide +kernel
theorem dX2_choicesBetween_8 : decode cX2_choicesBetween 8 = .ok (.if_icmp .eq 5, 3) := by decide +kernel
theorem dX2_choicesBetween_11 : decode cX2_choicesBetween 11 = .ok (.iconst 0, 1) := by decide +kernel
theorem dX2_choicesBetween_12 : decode cX2_choicesBetween 12 = .ok (.ireturn, 1) := by decide +kernel
theorem dX2_choicesBetween_13 : decode cX2_choicesBetween 13 = .ok (.aload_n 1, 1) := by decide +kernel
theorem dX2_choicesBetween_14 : decode cX2_choicesBetween 14 = .ok (.aload_n 0, 1) := by decide +kernel
theorem dX2_choicesBetween_15 : decode cX2_choicesBetween 15 = .ok (.getfield 15, 3) := by decide +kernel
theorem dX2_choicesBetween_18 : decode cX2_choicesBetween 18 = .ok (.invokevirtual 45, 3) := by decide +kernel
theorem dX2_choicesBetween_21 : decode cX2_choicesBetween 21 = .ok (.aload_n 2, 1) := by decide +kernel
theorem dX2_choicesBetween_22 : decode cX2_choicesBetween 22 = .ok (.aload_n 0, 1) := by decide +kernel
theorem dX2_choicesBetween_23 : decode cX2_choicesBetween 23 = .ok (.getfield 21, 3) := by decide +kernel
theorem dX2_choicesBetween_26 : decode cX2_choicesBetween 26 = .ok (.invokevirtual 45, 3) := by decide +kernel
theorem dX2_choicesBetween_29 : decode cX2_choicesBetween 29 = .ok (.iconst 0, 1) := by decide +kernel
theorem dX2_choicesBetween_30 : decode cX2_choicesBetween 30 = .ok (.istore_n 3, 1) := by decide +kernel
theorem dX2_choicesBetween_31 : decode cX2_choicesBetween 31 = .ok (.iconst 0, 1) := by decide +kernel
theorem dX2_choicesBetween_32 : decode cX2_choicesBetween 32 = .ok (.istore 4, 2) := by decide +kernel
theorem dX2_choicesBetween_34 : decode cX2_choicesBetween 34 = .ok (.iload 4, 2) := by decide +kernel
theorem dX2_choicesBetween_36 : decode cX2_choicesBetween 36 = .ok (.aload_n 1, 1) := by decide +kernel
theorem dX2_choicesBetween_37 : decode cX2_choicesBetween 37 = .ok (.getfield 49, 3) := by decide +kernel
theorem dX2_choicesBetween_40 : decode cX2_choicesBetween 40 = .ok (.if_icmp .gt 44, 3) := by decide +kernel
theorem dX2_choicesBetween_43 : decode cX2_choicesBetween 43 = .ok (.iload 4, 2) := by decide +kernel
theorem dX2_choicesBetween_45 : decode cX2_choicesBetween 45 = .ok (.bipush 19, 2) := by decide +kernel
theorem dX2_choicesBetween_47 : decode cX2_choicesBetween 47 = .ok (.if_icmp .ge 37, 3) := by decide +kernel
theorem dX2_choicesBetween_50 : decode cX2_choicesBetween 50 = .ok (.iload 4, 2) := by decide +kernel
theorem dX2_choicesBetween_52 : decode cX2_choicesBetween 52 = .ok (.ifCond .eq 13, 3) := by decide +kernel
theorem dX2_choicesBetween_55 : decode cX2_choicesBetween 55 = .ok (.aload_n 0, 1) := by decide +kernel
theorem dX2_choicesBetween_56 : decode cX2_choicesBetween 56 = .ok (.getfield 21, 3) := by decide +kernel
theorem dX2_choicesBetween_59 : decode cX2_choicesBetween 59 = .ok (.iload 4, 2) := by decide +kernel
theorem dX2_choicesBetween_61 : decode cX2_choicesBetween 61 = .ok (.iaload, 1) := by decide +kernel
theorem dX2_choicesBetween_62 : decode cX2_choicesBetween 62 = .ok (.ifCond .le 16, 3) := by decide +kernel
theorem dX2_choicesBetween_65 : decode cX2_choicesBetween 65 = .ok (.iload_n 3, 1) := by decide +kernel
theorem dX2_choicesBetween_66 : decode cX2_choicesBetween 66 = .ok (.aload_n 0, 1) := by decide +kernel
theorem dX2_choicesBetween_67 : decode cX2_choicesBetween 67 = .ok (.iload 4, 2) := by decide +kernel
theorem dX2_choicesBetween_69 : decode cX2_choicesBetween 69 = .ok (.aload_n 1, 1) := by decide +kernel
theorem dX2_choicesBetween_70 : decode cX2_choicesBetween 70 = .ok (.getfield 41, 3) := by decide +kernel
theorem dX2_choicesBetween_73 : decode cX2_choicesBetween 73 = .ok (.invokevirtual 52, 3) := by decide +kernel
theorem dX2_choicesBetween_76 : decode cX2_choicesBetween 76 = .ok (.iadd, 1) := by decide +kernel
theorem dX2_choicesBetween_77 : decode cX2_choicesBetween 77 = .ok (.istore_n 3, 1) := by decide +kernel
theorem dX2_choicesBetween_78 : decode cX2_choicesBetween 78 = .ok (.iinc 4 1, 3) := by decide +kernel
theorem dX2_choicesBetween_81 : decode cX2_choicesBetween 81 = .ok (.goto (-47), 3) := by decide +kernel
theorem dX2_choicesBetween_84 : decode cX2_choicesBetween 84 = .ok (.iload_n 3, 1) := by decide +kernel
theorem dX2_choicesBetween_85 : decode cX2_choicesBetween 85 = .ok (.ireturn, 1) := by decide +kernel
theorem dX2_choicesGiving_0 : decode cX2_choicesGiving 0 = .ok (.iconst 1, 1) := by decide +kernel
theorem dX2_choicesGiving_1 : decode cX2_choicesGiving 1 = .ok (.istore_n 3, 1) := by decide +kernel
theorem dX2_choicesGiving_2 : decode cX2_choicesGiving 2 = .ok (.iconst 0, 1) := by decide +kernel
theorem dX2_choicesGiving_3 : decode cX2_choicesGiving 3 = .ok (.istore 4, 2) := by decide +kernel
theorem dX2_choicesGiving_5 : decode cX2_choicesGiving 5 = .ok (.iconst 0, 1) := by decide +kernel
theorem dX2_choicesGiving_6 : decode cX2_choicesGiving 6 = .ok (.istore 5, 2) := by decide +kernel
theorem dX2_choicesGiving_8 : decode cX2_choicesGiving 8 = .ok (.iload_n 2, 1) := by decide +kernel
theorem dX2_choicesGiving_9 : decode cX2_choicesGiving 9 = .ok (.bipush 18, 2) := by decide +kernel
theorem dX2_choicesGiving_11 : decode cX2_choicesGiving 11 = .ok (.invokestatic 56, 3) := by decide +kernel
theorem dX2_choicesGiving_14 : decode cX2_choicesGiving 14 = .ok (.istore 6, 2) := by decide +kernel
theorem dX2_choicesGiving_16 : decode cX2_choicesGiving 16 = .ok (.iload 6, 2) := by decide +kernel
theorem dX2_choicesGiving_18 : decode cX2_choicesGiving 18 = .ok (.ifCond .le 87, 3) := by decide +kernel
theorem dX2_choicesGiving_21 : decode cX2_choicesGiving 21 = .ok (.aload_n 0, 1) := by decide +kernel
theorem dX2_choicesGiving_22 : decode cX2_choicesGiving 22 = .ok (.getfield 15, 3) := by decide +kernel
theorem dX2_choicesGiving_25 : decode cX2_choicesGiving 25 = .ok (.iload 6, 2) := by decide +kernel
theorem dX2_choicesGiving_27 : decode cX2_choicesGiving 27 = .ok (.iaload, 1) := by decide +kernel
theorem dX2_choicesGiving_28 : decode cX2_choicesGiving 28 = .ok (.iload 5, 2) := by decide +kernel
theorem dX2_choicesGiving_30 : decode cX2_choicesGiving 30 = .ok (.iadd, 1) := by decide +kernel
theorem dX2_choicesGiving_31 : decode cX2_choicesGiving 31 = .ok (.iload 6, 2) := by decide +kernel
theorem dX2_choicesGiving_33 : decode cX2_choicesGiving 33 = .ok (.iload_n 1, 1) := by decide +kernel
theorem dX2_choicesGiving_34 : decode cX2_choicesGiving 34 = .ok (.if_icmp .ne 7, 3) := by decide +kernel
theorem dX2_choicesGiving_37 : decode cX2_choicesGiving 37 = .ok (.iconst 1, 1) := by decide +kernel
theorem dX2_choicesGiving_38 : decode cX2_choicesGiving 38 = .ok (.goto 4, 3) := by decide +kernel
theorem dX2_choicesGiving_41 : decode cX2_choicesGiving 41 = .ok (.iconst 0, 1) := by decide +kernel
theorem dX2_choicesGiving_42 : decode cX2_choicesGiving 42 = .ok (.iadd, 1) := by decide +kernel
theorem dX2_choicesGiving_43 : decode cX2_choicesGiving 43 = .ok (.aload_n 0, 1) := by decide +kernel
theorem dX2_choicesGiving_44 : decode cX2_choicesGiving 44 = .ok (.getfield 21, 3) := by decide +kernel
theorem dX2_choicesGiving_47 : decode cX2_choicesGiving 47 = .ok (.iload 6, 2) := by decide +kernel
theorem dX2_choicesGiving_49 : decode cX2_choicesGiving 49 = .ok (.iaload, 1) := by decide +kernel
theorem dX2_choicesGiving_50 : decode cX2_choicesGiving 50 = .ok (.isub, 1) := by decide +kernel
theorem dX2_choicesGiving_51 : decode cX2_choicesGiving 51 = .ok (.istore 7, 2) := by decide +kernel
theorem dX2_choicesGiving_53 : decode cX2_choicesGiving 53 = .ok (.iload 7, 2) := by decide +kernel
theorem dX2_choicesGiving_55 : decode cX2_choicesGiving 55 = .ok (.ifCond .lt 15, 3) := by decide +kernel
theorem dX2_choicesGiving_58 : decode cX2_choicesGiving 58 = .ok (.iload 7, 2) := by decide +kernel
theorem dX2_choicesGiving_60 : decode cX2_choicesGiving 60 = .ok (.aload_n 0, 1) := by decide +kernel
theorem dX2_choicesGiving_61 : decode cX2_choicesGiving 61 = .ok (.getfield 15, 3) := by decide +kernel
theorem dX2_choicesGiving_64 : decode cX2_choicesGiving 64 = .ok (.iload 6, 2) := by decide +kernel
theorem dX2_choicesGiving_66 : decode cX2_choicesGiving 66 = .ok (.iaload, 1) := by decide +kernel
theorem dX2_choicesGiving_67 : decode cX2_choicesGiving 67 = .ok (.if_icmp .le 5, 3) := by decide +kernel
theorem dX2_choicesGiving_70 : decode cX2_choicesGiving 70 = .ok (.iconst 0, 1) := by decide +kernel
theorem dX2_choicesGiving_71 : decode cX2_choicesGiving 71 = .ok (.ireturn, 1) := by decide +kernel
theorem dX2_choicesGiving_72 : decode cX2_choicesGiving 72 = .ok (.iload_n 3, 1) := by decide +kernel
theorem dX2_choicesGiving_73 : decode cX2_choicesGiving 73 = .ok (.aload_n 0, 1) := by decide +kernel
theorem dX2_choicesGiving_74 : decode cX2_choicesGiving 74 = .ok (.aload_n 0, 1) := by decide +kernel
theorem dX2_choicesGiving_75 : decode cX2_choicesGiving 75 = .ok (.getfield 15, 3) := by decide +kernel
theorem dX2_choicesGiving_78 : decode cX2_choicesGiving 78 = .ok (.iload 6, 2) := by decide +kernel
theorem dX2_choicesGiving_80 : decode cX2_choicesGiving 80 = .ok (.iaload, 1) := by decide +kernel
theorem dX2_choicesGiving_81 : decode cX2_choicesGiving 81 = .ok (.iload 7, 2) := by decide +kernel
theorem dX2_choicesGiving_83 : decode cX2_choicesGiving 83 = .ok (.invokevirtual 61, 3) := by decide +kernel
theorem dX2_choicesGiving_86 : decode cX2_choicesGiving 86 = .ok (.imul, 1) := by decide +kernel
theorem dX2_choicesGiving_87 : decode cX2_choicesGiving 87 = .ok (.istore_n 3, 1) := by decide +kernel
theorem dX2_choicesGiving_88 : decode cX2_choicesGiving 88 = .ok (.iload 4, 2) := by decide +kernel
theorem dX2_choicesGiving_90 : decode cX2_choicesGiving 90 = .ok (.iload 7, 2) := by decide +kernel
theorem dX2_choicesGiving_92 : decode cX2_choicesGiving 92 = .ok (.iadd, 1) := by decide +kernel
theorem dX2_choicesGiving_93 : decode cX2_choicesGiving 93 = .ok (.istore 4, 2) := by decide +kernel
theorem dX2_choicesGiving_95 : decode cX2_choicesGiving 95 = .ok (.iload 7, 2) := by decide +kernel
theorem dX2_choicesGiving_97 : decode cX2_choicesGiving 97 = .ok (.istore 5, 2) := by decide +kernel
theorem dX2_choicesGiving_99 : decode cX2_choicesGiving 99 = .ok (.iinc 6 (-1), 3) := by decide +kernel
theorem dX2_choicesGiving_102 : decode cX2_choicesGiving 102 = .ok (.goto (-86), 3) := by decide +kernel
theorem dX2_choicesGiving_105 : decode cX2_choicesGiving 105 = .ok (.iload 4, 2) := by decide +kernel
theorem dX2_choicesGiving_107 : decode cX2_choicesGiving 107 = .ok (.iload_n 1, 1) := by decide +kernel
theorem dX2_choicesGiving_108 : decode cX2_choicesGiving 108 = .ok (.if_icmp .ne 7, 3) := by decide +kernel
theorem dX2_choicesGiving_111 : decode cX2_choicesGiving 111 = .ok (.iload_n 3, 1) := by decide +kernel
theorem dX2_choicesGiving_112 : decode cX2_choicesGiving 112 = .ok (.goto 4, 3) := by decide +kernel
theorem dX2_choicesGiving_115 : decode cX2_choicesGiving 115 = .ok (.iconst 0, 1) := by decide +kernel
theorem dX2_choicesGiving_116 : decode cX2_choicesGiving 116 = .ok (.ireturn, 1) := by decide +kernel
theorem dX2_countReached_0 : decode cX2_countReached 0 = .ok (.aload_n 0, 1) := by decide +kernel
theorem dX2_countReached_1 : decode cX2_countReached 1 = .ok (.getfield 38, 3) := by decide +kernel
theorem dX2_countReached_4 : decode cX2_countReached 4 = .ok (.lconst 0, 1) := by decide +kernel
theorem dX2_countReached_5 : decode cX2_countReached 5 = .ok (.invokestatic 64, 3) := by decide +kernel
theorem dX2_countReached_8 : decode cX2_countReached 8 = .ok (.aload_n 0, 1) := by decide +kernel
theorem dX2_countReached_9 : decode cX2_countReached 9 = .ok (.aload_n 1, 1) := by decide +kernel
theorem dX2_countReached_10 : decode cX2_countReached 10 = .ok (.aload_n 2, 1) := by decide +kernel
theorem dX2_countReached_11 : decode cX2_countReached 11 = .ok (.lconst 1, 1) := by decide +kernel
theorem dX2_countReached_12 : decode cX2_countReached 12 = .ok (.invokevirtual 70, 3) := by decide +kernel
theorem dX2_countReached_15 : decode cX2_countReached 15 = .ok (.iconst 0, 1) := by decide +kernel
theorem dX2_countReached_16 : decode cX2_countReached 16 = .ok (.istore_n 3, 1) := by decide +kernel
theorem dX2_countReached_17 : decode cX2_countReached 17 = .ok (.iconst 0, 1) := by decide +kernel
theorem dX2_countReached_18 : decode cX2_countReached 18 = .ok (.istore 4, 2) := by decide +kernel
theorem dX2_countReached_20 : decode cX2_countReached 20 = .ok (.iload 4, 2) := by decide +kernel
theorem dX2_countReached_22 : decode cX2_countReached 22 = .ok (.sipush 385, 3) := by decide +kernel
theorem dX2_countReached_25 : decode cX2_countReached 25 = .ok (.if_icmp .ge 29, 3) := by decide +kernel
theorem dX2_countReached_28 : decode cX2_countReached 28 = .ok (.iload_n 3, 1) := by decide +kernel
theorem dX2_countReached_29 : decode cX2_countReached 29 = .ok (.aload_n 0, 1) := by decide +kernel
theorem dX2_countReached_30 : decode cX2_countReached 30 = .ok (.getfield 38, 3) := by decide +kernel
theorem dX2_countReached_33 : decode cX2_countReached 33 = .ok (.iload 4, 2) := by decide +kernel
theorem dX2_countReached_35 : decode cX2_countReached 35 = .ok (.laload, 1) := by decide +kernel
theorem dX2_countReached_36 : decode cX2_countReached 36 = .ok (.lconst 0, 1) := by decide +kernel
theorem dX2_countReached_37 : decode cX2_countReached 37 = .ok (.lcmp, 1) := by decide +kernel
theorem dX2_countReached_38 : decode cX2_countReached 38 = .ok (.ifCond .le 7, 3) := by decide +kernel
theorem dX2_countReached_41 : decode cX2_countReached 41 = .ok (.iconst 1, 1) := by decide +kernel
theorem dX2_countReached_42 : decode cX2_countReached 42 = .ok (.goto 4, 3) := by decide +kernel
theorem dX2_countReached_45 : decode cX2_countReached 45 = .ok (.iconst 0, 1) := by decide +kernel
theorem dX2_countReached_46 : decode cX2_countReached 46 = .ok (.iadd, 1) := by decide +kernel
theorem dX2_countReached_47 : decode cX2_countReached 47 = .ok (.istore_n 3, 1) := by decide +kernel
theorem dX2_countReached_48 : decode cX2_countReached 48 = .ok (.iinc 4 1, 3) := by decide +kernel
theorem dX2_countReached_51 : decode cX2_countReached 51 = .ok (.goto (-31), 3) := by decide +kernel
theorem dX2_countReached_54 : decode cX2_countReached 54 = .ok (.iload_n 3, 1) := by decide +kernel
theorem dX2_countReached_55 : decode cX2_countReached 55 = .ok (.ireturn, 1) := by decide +kernel
theorem dX2_choicesOfSteps_0 : decode cX2_choicesOfSteps 0 = .ok (.aload_n 0, 1) := by decide +kernel
theorem dX2_choicesOfSteps_1 : decode cX2_choicesOfSteps 1 = .ok (.getfield 34, 3) := by decide +kernel
theorem dX2_choicesOfSteps_4 : decode cX2_choicesOfSteps 4 = .ok (.lconst 0, 1) := by decide +kernel
theorem dX2_choicesOfSteps_5 : decode cX2_choicesOfSteps 5 = .ok (.invokestatic 64, 3) := by decide +kernel
theorem dX2_choicesOfSteps_8 : decode cX2_choicesOfSteps 8 = .ok (.aload_n 1, 1) := by decide +kernel
theorem dX2_choicesOfSteps_9 : decode cX2_choicesOfSteps 9 = .ok (.aload_n 2, 1) := by decide +kernel
theorem dX2_choicesOfSteps_10 : decode cX2_choicesOfSteps 10 = .ok (.invokevirtual 74, 3) := by decide +kernel
theorem dX2_choicesOfSteps_13 : decode cX2_choicesOfSteps 13 = .ok (.istore 5, 2) := by decide +kernel
theorem dX2_choicesOfSteps_15 : decode cX2_choicesOfSteps 15 = .ok (.iload 5, 2) := by decide +kernel
theorem dX2_choicesOfSteps_17 : decode cX2_choicesOfSteps 17 = .ok (.ifCond .lt 11, 3) := by decide +kernel
theorem dX2_choicesOfSteps_20 : decode cX2_choicesOfSteps 20 = .ok (.iload 5, 2) := by decide +kernel
theorem dX2_choicesOfSteps_22 : decode cX2_choicesOfSteps 22 = .ok (.sipush 385, 3) := by decide +kernel
theorem dX2_choicesOfSteps_25 : decode cX2_choicesOfSteps 25 = .ok (.if_icmp .lt 5, 3) := by decide +kernel
theorem dX2_choicesOfSteps_28 : decode cX2_choicesOfSteps 28 = .ok (.lconst 0, 1) := by decide +kernel
theorem dX2_choicesOfSteps_29 : decode cX2_choicesOfSteps 29 = .ok (.lreturn, 1) := by decide +kernel
theorem dX2_choicesOfSteps_30 : decode cX2_choicesOfSteps 30 = .ok (.iload 4, 2) := by decide +kernel
theorem dX2_choicesOfSteps_32 : decode cX2_choicesOfSteps 32 = .ok (.iconst 1, 1) := by decide +kernel
theorem dX2_choicesOfSteps_33 : decode cX2_choicesOfSteps 33 = .ok (.if_icmp .ge 19, 3) := by decide +kernel
theorem dX2_choicesOfSteps_36 : decode cX2_choicesOfSteps 36 = .ok (.iload 5, 2) := by decide +kernel
theorem dX2_choicesOfSteps_38 : decode cX2_choicesOfSteps 38 = .ok (.aload_n 1, 1) := by decide +kernel
theorem dX2_choicesOfSteps_39 : decode cX2_choicesOfSteps 39 = .ok (.aload_n 3, 1) := by decide +kernel
theorem dX2_choicesOfSteps_40 : decode cX2_choicesOfSteps 40 = .ok (.invokevirtual 74, 3) := by decide +kernel
theorem dX2_choicesOfSteps_43 : decode cX2_choicesOfSteps 43 = .ok (.if_icmp .ne 7, 3) := by decide +kernel
theorem dX2_choicesOfSteps_46 : decode cX2_choicesOfSteps 46 = .ok (.lconst 1, 1) := by decide +kernel
theorem dX2_choicesOfSteps_47 : decode cX2_choicesOfSteps 47 = .ok (.goto 4, 3) := by decide +kernel
theorem dX2_choicesOfSteps_50 : decode cX2_choicesOfSteps 50 = .ok (.lconst 0, 1) := by decide +kernel
theorem dX2_choicesOfSteps_51 : decode cX2_choicesOfSteps 51 = .ok (.lreturn, 1) := by decide +kernel
theorem dX2_choicesOfSteps_52 : decode cX2_choicesOfSteps 52 = .ok (.aload_n 0, 1) := by decide +kernel
theorem dX2_choicesOfSteps_53 : decode cX2_choicesOfSteps 53 = .ok (.getfield 34, 3) := by decide +kernel
theorem dX2_choicesOfSteps_56 : decode cX2_choicesOfSteps 56 = .ok (.iload 5, 2) := by decide +kernel
theorem dX2_choicesOfSteps_58 : decode cX2_choicesOfSteps 58 = .ok (.lconst 1, 1) := by decide +kernel
theorem dX2_choicesOfSteps_59 : decode cX2_choicesOfSteps 59 = .ok (.lastore, 1) := by decide +kernel
theorem dX2_choicesOfSteps_60 : decode cX2_choicesOfSteps 60 = .ok (.iconst 1, 1) := by decide +kernel
theorem dX2_choicesOfSteps_61 : decode cX2_choicesOfSteps 61 = .ok (.istore 6, 2) := by decide +kernel
theorem dX2_choicesOfSteps_63 : decode cX2_choicesOfSteps 63 = .ok (.iload 6, 2) := by decide +kernel
theorem dX2_choicesOfSteps_65 : decode cX2_choicesOfSteps 65 = .ok (.iload 4, 2) := by decide +kernel
theorem dX2_choicesOfSteps_67 : decode cX2_choicesOfSteps 67 = .ok (.if_icmp .ge 18, 3) := by decide +kernel
theorem dX2_choicesOfSteps_70 : decode cX2_choicesOfSteps 70 = .ok (.aload_n 0, 1) := by decide +kernel
theorem dX2_choicesOfSteps_71 : decode cX2_choicesOfSteps 71 = .ok (.aload_n 1, 1) := by decide +kernel
theorem dX2_choicesOfSteps_72 : decode cX2_choicesOfSteps 72 = .ok (.aload_n 2, 1) := by decide +kernel
theorem dX2_choicesOfSteps_73 : decode cX2_choicesOfSteps 73 = .ok (.getfield 41, 3) := by decide +kernel
theorem dX2_choicesOfSteps_76 : decode cX2_choicesOfSteps 76 = .ok (.invokevirtual 80, 3) := by decide +kernel
theorem dX2_choicesOfSteps_79 : decode cX2_choicesOfSteps 79 = .ok (.iinc 6 1, 3) := by decide +kernel
theorem dX2_choicesOfSteps_82 : decode cX2_choicesOfSteps 82 = .ok (.goto (-19), 3) := by decide +kernel
theorem dX2_choicesOfSteps_85 : decode cX2_choicesOfSteps 85 = .ok (.lconst 0, 1) := by decide +kernel
theorem dX2_choicesOfSteps_86 : decode cX2_choicesOfSteps 86 = .ok (.lstore 6, 2) := by decide +kernel
theorem dX2_choicesOfSteps_88 : decode cX2_choicesOfSteps 88 = .ok (.iconst 0, 1) := by decide +kernel
theorem dX2_choicesOfSteps_89 : decode cX2_choicesOfSteps 89 = .ok (.istore 8, 2) := by decide +kernel
theorem dX2_choicesOfSteps_91 : decode cX2_choicesOfSteps 91 = .ok (.iload 8, 2) := by decide +kernel
theorem dX2_choicesOfSteps_93 : decode cX2_choicesOfSteps 93 = .ok (.sipush 385, 3) := by decide +kernel
theorem dX2_choicesOfSteps_96 : decode cX2_choicesOfSteps 96 = .ok (.if_icmp .ge 58, 3) := by decide +kernel
theorem dX2_choicesOfSteps_99 : decode cX2_choicesOfSteps 99 = .ok (.aload_n 0, 1) := by decide +kernel
theorem dX2_choicesOfSteps_100 : decode cX2_choicesOfSteps 100 = .ok (.getfield 34, 3) := by decide +kernel
theorem dX2_choicesOfSteps_103 : decode cX2_choicesOfSteps 103 = .ok (.iload 8, 2) := by decide +kernel
theorem dX2_choicesOfSteps_105 : decode cX2_choicesOfSteps 105 = .ok (.laload, 1) := by decide +kernel
theorem dX2_choicesOfSteps_106 : decode cX2_choicesOfSteps 106 = .ok (.lconst 0, 1) := by decide +kernel
theorem dX2_choicesOfSteps_107 : decode cX2_choicesOfSteps 107 = .ok (.lcmp, 1) := by decide +kernel
theorem dX2_choicesOfSteps_108 : decode cX2_choicesOfSteps 108 = .ok (.ifCond .le 40, 3) := by decide +kernel
theorem dX2_choicesOfSteps_111 : decode cX2_choicesOfSteps 111 = .ok (.aload_n 1, 1) := by decide +kernel
theorem dX2_choicesOfSteps_112 : decode cX2_choicesOfSteps 112 = .ok (.aload_n 0, 1) := by decide +kernel
theorem dX2_choicesOfSteps_113 : decode cX2_choicesOfSteps 113 = .ok (.getfield 27, 3) := by decide +kernel
theorem dX2_choicesOfSteps_116 : decode cX2_choicesOfSteps 116 = .ok (.aload_n 2, 1) := by decide +kernel
theorem dX2_choicesOfSteps_117 : decode cX2_choicesOfSteps 117 = .ok (.getfield 41, 3) := by decide +kernel
theorem dX2_choicesOfSteps_120 : decode cX2_choicesOfSteps 120 = .ok (.iload 8, 2) := by decide +kernel
theorem dX2_choicesOfSteps_122 : decode cX2_choicesOfSteps 122 = .ok (.invokevirtual 84, 3) := by decide +kernel
theorem dX2_choicesOfSteps_125 : decode cX2_choicesOfSteps 125 = .ok (.lload 6, 2) := by decide +kernel
theorem dX2_choicesOfSteps_127 : decode cX2_choicesOfSteps 127 = .ok (.aload_n 0, 1) := by decide +kernel
theorem dX2_choicesOfSteps_128 : decode cX2_choicesOfSteps 128 = .ok (.getfield 34, 3) := by decide +kernel
theorem dX2_choicesOfSteps_131 : decode cX2_choicesOfSteps 131 = .ok (.iload 8, 2) := by decide +kernel
theorem dX2_choicesOfSteps_133 : decode cX2_choicesOfSteps 133 = .ok (.laload, 1) := by decide +kernel
theorem dX2_choicesOfSteps_134 : decode cX2_choicesOfSteps 134 = .ok (.aload_n 0, 1) := by decide +kernel
theorem dX2_choicesOfSteps_135 : decode cX2_choicesOfSteps 135 = .ok (.aload_n 0, 1) := by decide +kernel
theorem dX2_choicesOfSteps_136 : decode cX2_choicesOfSteps 136 = .ok (.getfield 27, 3) := by decide +kernel
theorem dX2_choicesOfSteps_139 : decode cX2_choicesOfSteps 139 = .ok (.aload_n 3, 1) := by decide +kernel
theorem dX2_choicesOfSteps_140 : decode cX2_choicesOfSteps 140 = .ok (.invokevirtual 88, 3) := by decide +kernel
theorem dX2_choicesOfSteps_143 : decode cX2_choicesOfSteps 143 = .ok (.i2l, 1) := by decide +kernel
theorem dX2_choicesOfSteps_144 : decode cX2_choicesOfSteps 144 = .ok (.lmul, 1) := by decide +kernel
theorem dX2_choicesOfSteps_145 : decode cX2_choicesOfSteps 145 = .ok (.ladd, 1) := by decide +kernel
theorem dX2_choicesOfSteps_146 : decode cX2_choicesOfSteps 146 = .ok (.lstore 6, 2) := by decide +kernel
theorem dX2_choicesOfSteps_148 : decode cX2_choicesOfSteps 148 = .ok (.iinc 8 1, 3) := by decide +kernel
theorem dX2_choicesOfSteps_151 : decode cX2_choicesOfSteps 151 = .ok (.goto (-60), 3) := by decide +kernel
theorem dX2_choicesOfSteps_154 : decode cX2_choicesOfSteps 154 = .ok (.lload 6, 2) := by decide +kernel
theorem dX2_choicesOfSteps_156 : decode cX2_choicesOfSteps 156 = .ok (.lreturn, 1) := by decide +kernel
theorem dX2_spreadAll_0 : decode cX2_spreadAll 0 = .ok (.aload_n 0, 1) := by decide +kernel
theorem dX2_spreadAll_1 : decode cX2_spreadAll 1 = .ok (.getfield 38, 3) := by decide +kernel
theorem dX2_spreadAll_4 : decode cX2_spreadAll 4 = .ok (.lconst 0, 1) := by decide +kernel
theorem dX2_spreadAll_5 : decode cX2_spreadAll 5 = .ok (.invokestatic 64, 3) := by decide +kernel
theorem dX2_spreadAll_8 : decode cX2_spreadAll 8 = .ok (.iconst 0, 1) := by decide +kernel
theorem dX2_spreadAll_9 : decode cX2_spreadAll 9 = .ok (.istore_n 3, 1) := by decide +kernel
theorem dX2_spreadAll_10 : decode cX2_spreadAll 10 = .ok (.iload_n 3, 1) := by decide +kernel
theorem dX2_spreadAll_11 : decode cX2_spreadAll 11 = .ok (.sipush 385, 3) := by decide +kernel
theorem dX2_spreadAll_14 : decode cX2_spreadAll 14 = .ok (.if_icmp .ge 45, 3) := by decide +kernel
theorem dX2_spreadAll_17 : decode cX2_spreadAll 17 = .ok (.aload_n 0, 1) := by decide +kernel
theorem dX2_spreadAll_18 : decode cX2_spreadAll 18 = .ok (.getfield 34, 3) := by decide +kernel
theorem dX2_spreadAll_21 : decode cX2_spreadAll 21 = .ok (.iload_n 3, 1) := by decide +kernel
theorem dX2_spreadAll_22 : decode cX2_spreadAll 22 = .ok (.laload, 1) := by decide +kernel
theorem dX2_spreadAll_23 : decode cX2_spreadAll 23 = .ok (.lconst 0, 1) := by decide +kernel
theorem dX2_spreadAll_24 : decode cX2_spreadAll 24 = .ok (.lcmp, 1) := by decide +kernel
theorem dX2_spreadAll_25 : decode cX2_spreadAll 25 = .ok (.ifCond .le 28, 3) := by decide +kernel
theorem dX2_spreadAll_28 : decode cX2_spreadAll 28 = .ok (.aload_n 1, 1) := by decide +kernel
theorem dX2_spreadAll_29 : decode cX2_spreadAll 29 = .ok (.aload_n 0, 1) := by decide +kernel
theorem dX2_spreadAll_30 : decode cX2_spreadAll 30 = .ok (.getfield 27, 3) := by decide +kernel
theorem dX2_spreadAll_33 : decode cX2_spreadAll 33 = .ok (.iload_n 2, 1) := by decide +kernel
theorem dX2_spreadAll_34 : decode cX2_spreadAll 34 = .ok (.iload_n 3, 1) := by decide +kernel
theorem dX2_spreadAll_35 : decode cX2_spreadAll 35 = .ok (.invokevirtual 84, 3) := by decide +kernel
theorem dX2_spreadAll_38 : decode cX2_spreadAll 38 = .ok (.aload_n 0, 1) := by decide +kernel
theorem dX2_spreadAll_39 : decode cX2_spreadAll 39 = .ok (.aload_n 1, 1) := by decide +kernel
theorem dX2_spreadAll_40 : decode cX2_spreadAll 40 = .ok (.aload_n 0, 1) := by decide +kernel
theorem dX2_spreadAll_41 : decode cX2_spreadAll 41 = .ok (.getfield 27, 3) := by decide +kernel
theorem dX2_spreadAll_44 : decode cX2_spreadAll 44 = .ok (.aload_n 0, 1) := by decide +kernel
theorem dX2_spreadAll_45 : decode cX2_spreadAll 45 = .ok (.getfield 34, 3) := by decide +kernel
theorem dX2_spreadAll_48 : decode cX2_spreadAll 48 = .ok (.iload_n 3, 1) := by decide +kernel
theorem dX2_spreadAll_49 : decode cX2_spreadAll 49 = .ok (.laload, 1) := by decide +kernel
theorem dX2_spreadAll_50 : decode cX2_spreadAll 50 = .ok (.invokevirtual 70, 3) := by decide +kernel
theorem dX2_spreadAll_53 : decode cX2_spreadAll 53 = .ok (.iinc 3 1, 3) := by decide +kernel
theorem dX2_spreadAll_56 : decode cX2_spreadAll 56 = .ok (.goto (-46), 3) := by decide +kernel
theorem dX2_spreadAll_59 : decode cX2_spreadAll 59 = .ok (.aload_n 0, 1) := by decide +kernel
theorem dX2_spreadAll_60 : decode cX2_spreadAll 60 = .ok (.getfield 34, 3) := by decide +kernel
theorem dX2_spreadAll_63 : decode cX2_spreadAll 63 = .ok (.astore_n 3, 1) := by decide +kernel
theorem dX2_spreadAll_64 : decode cX2_spreadAll 64 = .ok (.aload_n 0, 1) := by decide +kernel
theorem dX2_spreadAll_65 : decode cX2_spreadAll 65 = .ok (.aload_n 0, 1) := by decide +kernel
theorem dX2_spreadAll_66 : decode cX2_spreadAll 66 = .ok (.getfield 38, 3) := by decide +kernel
theorem dX2_spreadAll_69 : decode cX2_spreadAll 69 = .ok (.putfield 34, 3) := by decide +kernel
theorem dX2_spreadAll_72 : decode cX2_spreadAll 72 = .ok (.aload_n 0, 1) := by decide +kernel
theorem dX2_spreadAll_73 : decode cX2_spreadAll 73 = .ok (.aload_n 3, 1) := by decide +kernel
theorem dX2_spreadAll_74 : decode cX2_spreadAll 74 = .ok (.putfield 38, 3) := by decide +kernel
theorem dX2_spreadAll_77 : decode cX2_spreadAll 77 = .ok (.return_, 1) := by decide +kernel
theorem dX2_spread_0 : decode cX2_spread 0 = .ok (.aload_n 2, 1) := by decide +kernel
theorem dX2_spread_1 : decode cX2_spread 1 = .ok (.aload_n 0, 1) := by decide +kernel
theorem dX2_spread_2 : decode cX2_spread 2 = .ok (.getfield 15, 3) := by decide +kernel
theorem dX2_spread_5 : decode cX2_spread 5 = .ok (.invokevirtual 45, 3) := by decide +kernel
theorem dX2_spread_8 : decode cX2_spread 8 = .ok (.aload_n 0, 1) := by decide +kernel
theorem dX2_spread_9 : decode cX2_spread 9 = .ok (.getfield 18, 3) := by decide +kernel
theorem dX2_spread_12 : decode cX2_spread 12 = .ok (.iconst 0, 1) := by decide +kernel
theorem dX2_spread_13 : decode cX2_spread 13 = .ok (.invokestatic 92, 3) := by decide +kernel
theorem dX2_spread_16 : decode cX2_spread 16 = .ok (.iconst 1, 1) := by decide +kernel
theorem dX2_spread_17 : decode cX2_spread 17 = .ok (.istore 5, 2) := by decide +kernel
theorem dX2_spread_19 : decode cX2_spread 19 = .ok (.iconst 1, 1) := by decide +kernel
theorem dX2_spread_20 : decode cX2_spread 20 = .ok (.istore 6, 2) := by decide +kernel
theorem dX2_spread_22 : decode cX2_spread 22 = .ok (.iload 6, 2) := by decide +kernel
theorem dX2_spread_24 : decode cX2_spread 24 = .ok (.bipush 19, 2) := by decide +kernel
theorem dX2_spread_26 : decode cX2_spread 26 = .ok (.if_icmp .ge 23, 3) := by decide +kernel
theorem dX2_spread_29 : decode cX2_spread 29 = .ok (.iload 5, 2) := by decide +kernel
theorem dX2_spread_31 : decode cX2_spread 31 = .ok (.aload_n 0, 1) := by decide +kernel
theorem dX2_spread_32 : decode cX2_spread 32 = .ok (.getfield 15, 3) := by decide +kernel
theorem dX2_spread_35 : decode cX2_spread 35 = .ok (.iload 6, 2) := by decide +kernel
theorem dX2_spread_37 : decode cX2_spread 37 = .ok (.iaload, 1) := by decide +kernel
theorem dX2_spread_38 : decode cX2_spread 38 = .ok (.iconst 1, 1) := by decide +kernel
theorem dX2_spread_39 : decode cX2_spread 39 = .ok (.iadd, 1) := by decide +kernel
theorem dX2_spread_40 : decode cX2_spread 40 = .ok (.imul, 1) := by decide +kernel
theorem dX2_spread_41 : decode cX2_spread 41 = .ok (.istore 5, 2) := by decide +kernel
theorem dX2_spread_43 : decode cX2_spread 43 = .ok (.iinc 6 1, 3) := by decide +kernel
theorem dX2_spread_46 : decode cX2_spread 46 = .ok (.goto (-24), 3) := by decide +kernel
theorem dX2_spread_49 : decode cX2_spread 49 = .ok (.iconst 0, 1) := by decide +kernel
theorem dX2_spread_50 : decode cX2_spread 50 = .ok (.istore 6, 2) := by decide +kernel
theorem dX2_spread_52 : decode cX2_spread 52 = .ok (.iload 6, 2) := by decide +kernel
theorem dX2_spread_54 : decode cX2_spread 54 = .ok (.iload 5, 2) := by decide +kernel
theorem dX2_spread_56 : decode cX2_spread 56 = .ok (.if_icmp .ge 23, 3) := by decide +kernel
theorem dX2_spread_59 : decode cX2_spread 59 = .ok (.aload_n 0, 1) := by decide +kernel
theorem dX2_spread_60 : decode cX2_spread 60 = .ok (.aload_n 1, 1) := by decide +kernel
theorem dX2_spread_61 : decode cX2_spread 61 = .ok (.aload_n 2, 1) := by decide +kernel
theorem dX2_spread_62 : decode cX2_spread 62 = .ok (.getfield 41, 3) := by decide +kernel
theorem dX2_spread_65 : decode cX2_spread 65 = .ok (.lload_n 3, 1) := by decide +kernel
theorem dX2_spread_66 : decode cX2_spread 66 = .ok (.invokevirtual 95, 3) := by decide +kernel
theorem dX2_spread_69 : decode cX2_spread 69 = .ok (.aload_n 0, 1) := by decide +kernel
theorem dX2_spread_70 : decode cX2_spread 70 = .ok (.invokevirtual 99, 3) := by decide +kernel
theorem dX2_spread_73 : decode cX2_spread 73 = .ok (.iinc 6 1, 3) := by decide +kernel
theorem dX2_spread_76 : decode cX2_spread 76 = .ok (.goto (-24), 3) := by decide +kernel
theorem dX2_spread_79 : decode cX2_spread 79 = .ok (.return_, 1) := by decide +kernel
theorem dX2_land_0 : decode cX2_land 0 = .ok (.aload_n 0, 1) := by decide +kernel
theorem dX2_land_1 : decode cX2_land 1 = .ok (.getfield 31, 3) := by decide +kernel
theorem dX2_land_4 : decode cX2_land 4 = .ok (.invokevirtual 102, 3) := by decide +kernel
theorem dX2_land_7 : decode cX2_land 7 = .ok (.lload_n 3, 1) := by decide +kernel
theorem dX2_land_8 : decode cX2_land 8 = .ok (.lstore 5, 2) := by decide +kernel
theorem dX2_land_10 : decode cX2_land 10 = .ok (.iconst 0, 1) := by decide +kernel
theorem dX2_land_11 : decode cX2_land 11 = .ok (.istore 7, 2) := by decide +kernel
theorem dX2_land_13 : decode cX2_land 13 = .ok (.iload_n 2, 1) := by decide +kernel
theorem dX2_land_14 : decode cX2_land 14 = .ok (.bipush 18, 2) := by decide +kernel
theorem dX2_land_16 : decode cX2_land 16 = .ok (.invokestatic 56, 3) := by decide +kernel
theorem dX2_land_19 : decode cX2_land 19 = .ok (.istore 8, 2) := by decide +kernel
theorem dX2_land_21 : decode cX2_land 21 = .ok (.iload 8, 2) := by decide +kernel
theorem dX2_land_23 : decode cX2_land 23 = .ok (.ifCond .le 97, 3) := by decide +kernel
theorem dX2_land_26 : decode cX2_land 26 = .ok (.lload 5, 2) := by decide +kernel
theorem dX2_land_28 : decode cX2_land 28 = .ok (.aload_n 0, 1) := by decide +kernel
theorem dX2_land_29 : decode cX2_land 29 = .ok (.aload_n 0, 1) := by decide +kernel
theorem dX2_land_30 : decode cX2_land 30 = .ok (.getfield 15, 3) := by decide +kernel
theorem dX2_land_33 : decode cX2_land 33 = .ok (.iload 8, 2) := by decide +kernel
theorem dX2_land_35 : decode cX2_land 35 = .ok (.iaload, 1) := by decide +kernel
theorem dX2_land_36 : decode cX2_land 36 = .ok (.aload_n 0, 1) := by decide +kernel
theorem dX2_land_37 : decode cX2_land 37 = .ok (.getfield 18, 3) := by decide +kernel
theorem dX2_land_40 : decode cX2_land 40 = .ok (.iload 8, 2) := by decide +kernel
theorem dX2_land_42 : decode cX2_land 42 = .ok (.iaload, 1) := by decide +kernel
theorem dX2_land_43 : decode cX2_land 43 = .ok (.invokevirtual 61, 3) := by decide +kernel
theorem dX2_land_46 : decode cX2_land 46 = .ok (.i2l, 1) := by decide +kernel
theorem dX2_land_47 : decode cX2_land 47 = .ok (.lmul, 1) := by decide +kernel
theorem dX2_land_48 : decode cX2_land 48 = .ok (.lstore 5, 2) := by decide +kernel
theorem dX2_land_50 : decode cX2_land 50 = .ok (.iload 7, 2) := by decide +kernel
theorem dX2_land_52 : decode cX2_land 52 = .ok (.aload_n 0, 1) := by decide +kernel
theorem dX2_land_53 : decode cX2_land 53 = .ok (.getfield 18, 3) := by decide +kernel
theorem dX2_land_56 : decode cX2_land 56 = .ok (.iload 8, 2) := by decide +kernel
theorem dX2_land_58 : decode cX2_land 58 = .ok (.iaload, 1) := by decide +kernel
theorem dX2_land_59 : decode cX2_land 59 = .ok (.iadd, 1) := by decide +kernel
theorem dX2_land_60 : decode cX2_land 60 = .ok (.istore 7, 2) := by decide +kernel
theorem dX2_land_62 : decode cX2_land 62 = .ok (.aload_n 0, 1) := by decide +kernel
theorem dX2_land_63 : decode cX2_land 63 = .ok (.getfield 15, 3) := by decide +kernel
theorem dX2_land_66 : decode cX2_land 66 = .ok (.iload 8, 2) := by decide +kernel
theorem dX2_land_68 : decode cX2_land 68 = .ok (.iaload, 1) := by decide +kernel
theorem dX2_land_69 : decode cX2_land 69 = .ok (.aload_n 0, 1) := by decide +kernel
theorem dX2_land_70 : decode cX2_land 70 = .ok (.getfield 18, 3) := by decide +kernel
theorem dX2_land_73 : decode cX2_land 73 = .ok (.iload 8, 2) := by decide +kernel
theorem dX2_land_75 : decode cX2_land 75 = .ok (.iaload, 1) := by decide +kernel
theorem dX2_land_76 : decode cX2_land 76 = .ok (.isub, 1) := by decide +kernel
theorem dX2_land_77 : decode cX2_land 77 = .ok (.aload_n 0, 1) := by decide +kernel
theorem dX2_land_78 : decode cX2_land 78 = .ok (.getfield 18, 3) := by decide +kernel
theorem dX2_land_81 : decode cX2_land 81 = .ok (.iload 8, 2) := by decide +kernel
theorem dX2_land_83 : decode cX2_land 83 = .ok (.iconst 1, 1) := by decide +kernel
theorem dX2_land_84 : decode cX2_land 84 = .ok (.iadd, 1) := by decide +kernel
theorem dX2_land_85 : decode cX2_land 85 = .ok (.iaload, 1) := by decide +kernel
theorem dX2_land_86 : decode cX2_land 86 = .ok (.iadd, 1) := by decide +kernel
theorem dX2_land_87 : decode cX2_land 87 = .ok (.istore 9, 2) := by decide +kernel
theorem dX2_land_89 : decode cX2_land 89 = .ok (.iconst 0, 1) := by decide +kernel
theorem dX2_land_90 : decode cX2_land 90 = .ok (.istore 10, 2) := by decide +kernel
theorem dX2_land_92 : decode cX2_land 92 = .ok (.iload 10, 2) := by decide +kernel
theorem dX2_land_94 : decode cX2_land 94 = .ok (.iload 9, 2) := by decide +kernel
theorem dX2_land_96 : decode cX2_land 96 = .ok (.if_icmp .ge 18, 3) := by decide +kernel
theorem dX2_land_99 : decode cX2_land 99 = .ok (.aload_n 0, 1) := by decide +kernel
theorem dX2_land_100 : decode cX2_land 100 = .ok (.getfield 31, 3) := by decide +kernel
theorem dX2_land_103 : decode cX2_land 103 = .ok (.iload 8, 2) := by decide +kernel
theorem dX2_land_105 : decode cX2_land 105 = .ok (.invokevirtual 105, 3) := by decide +kernel
theorem dX2_land_108 : decode cX2_land 108 = .ok (.iinc 10 1, 3) := by decide +kernel
theorem dX2_land_111 : decode cX2_land 111 = .ok (.goto (-19), 3) := by decide +kernel
theorem dX2_land_114 : decode cX2_land 114 = .ok (.iinc 8 (-1), 3) := by decide +kernel
theorem dX2_land_117 : decode cX2_land 117 = .ok (.goto (-96), 3) := by decide +kernel
theorem dX2_land_120 : decode cX2_land 120 = .ok (.aload_n 0, 1) := by decide +kernel
theorem dX2_land_121 : decode cX2_land 121 = .ok (.getfield 31, 3) := by decide +kernel
theorem dX2_land_124 : decode cX2_land 124 = .ok (.iload 7, 2) := by decide +kernel
theorem dX2_land_126 : decode cX2_land 126 = .ok (.invokevirtual 105, 3) := by decide +kernel
theorem dX2_land_129 : decode cX2_land 129 = .ok (.aload_n 1, 1) := by decide +kernel
theorem dX2_land_130 : decode cX2_land 130 = .ok (.aload_n 0, 1) := by decide +kernel
theorem dX2_land_131 : decode cX2_land 131 = .ok (.getfield 31, 3) := by decide +kernel
theorem dX2_land_134 : decode cX2_land 134 = .ok (.invokevirtual 74, 3) := by decide +kernel
theorem dX2_land_137 : decode cX2_land 137 = .ok (.istore 8, 2) := by decide +kernel
theorem dX2_land_139 : decode cX2_land 139 = .ok (.iload 8, 2) := by decide +kernel
theorem dX2_land_141 : decode cX2_land 141 = .ok (.ifCond .lt 23, 3) := by decide +kernel
theorem dX2_land_144 : decode cX2_land 144 = .ok (.iload 8, 2) := by decide +kernel
theorem dX2_land_146 : decode cX2_land 146 = .ok (.sipush 385, 3) := by decide +kernel
theorem dX2_land_149 : decode cX2_land 149 = .ok (.if_icmp .ge 15, 3) := by decide +kernel
theorem dX2_land_152 : decode cX2_land 152 = .ok (.aload_n 0, 1) := by decide +kernel
theorem dX2_land_153 : decode cX2_land 153 = .ok (.getfield 38, 3) := by decide +kernel
theorem dX2_land_156 : decode cX2_land 156 = .ok (.iload 8, 2) := by decide +kernel
theorem dX2_land_158 : decode cX2_land 158 = .ok (.dup2, 1) := by decide +kernel
theorem dX2_land_159 : decode cX2_land 159 = .ok (.laload, 1) := by decide +kernel
theorem dX2_land_160 : decode cX2_land 160 = .ok (.lload 5, 2) := by decide +kernel
theorem dX2_land_162 : decode cX2_land 162 = .ok (.ladd, 1) := by decide +kernel
theorem dX2_land_163 : decode cX2_land 163 = .ok (.lastore, 1) := by decide +kernel
theorem dX2_land_164 : decode cX2_land 164 = .ok (.return_, 1) := by decide +kernel
theorem dX2_nextGift_0 : decode cX2_nextGift 0 = .ok (.iconst 1, 1) := by decide +kernel
theorem dX2_nextGift_1 : decode cX2_nextGift 1 = .ok (.istore_n 1, 1) := by decide +kernel
theorem dX2_nextGift_2 : decode cX2_nextGift 2 = .ok (.iload_n 1, 1) := by decide +kernel
theorem dX2_nextGift_3 : decode cX2_nextGift 3 = .ok (.bipush 19, 2) := by decide +kernel
theorem dX2_nextGift_5 : decode cX2_nextGift 5 = .ok (.if_icmp .ge 42, 3) := by decide +kernel
theorem dX2_nextGift_8 : decode cX2_nextGift 8 = .ok (.aload_n 0, 1) := by decide +kernel
theorem dX2_nextGift_9 : decode cX2_nextGift 9 = .ok (.getfield 18, 3) := by decide +kernel
theorem dX2_nextGift_12 : decode cX2_nextGift 12 = .ok (.iload_n 1, 1) := by decide +kernel
theorem dX2_nextGift_13 : decode cX2_nextGift 13 = .ok (.iaload, 1) := by decide +kernel
theorem dX2_nextGift_14 : decode cX2_nextGift 14 = .ok (.aload_n 0, 1) := by decide +kernel
theorem dX2_nextGift_15 : decode cX2_nextGift 15 = .ok (.getfield 15, 3) := by decide +kernel
theorem dX2_nextGift_18 : decode cX2_nextGift 18 = .ok (.iload_n 1, 1) := by decide +kernel
theorem dX2_nextGift_19 : decode cX2_nextGift 19 = .ok (.iaload, 1) := by decide +kernel
theorem dX2_nextGift_20 : decode cX2_nextGift 20 = .ok (.if_icmp .ge 14, 3) := by decide +kernel
theorem dX2_nextGift_23 : decode cX2_nextGift 23 = .ok (.aload_n 0, 1) := by decide +kernel
theorem dX2_nextGift_24 : decode cX2_nextGift 24 = .ok (.getfield 18, 3) := by decide +kernel
theorem dX2_nextGift_27 : decode cX2_nextGift 27 = .ok (.iload_n 1, 1) := by decide +kernel
theorem dX2_nextGift_28 : decode cX2_nextGift 28 = .ok (.dup2, 1) := by decide +kernel
theorem dX2_nextGift_29 : decode cX2_nextGift 29 = .ok (.iaload, 1) := by decide +kernel
theorem dX2_nextGift_30 : decode cX2_nextGift 30 = .ok (.iconst 1, 1) := by decide +kernel
theorem dX2_nextGift_31 : decode cX2_nextGift 31 = .ok (.iadd, 1) := by decide +kernel
theorem dX2_nextGift_32 : decode cX2_nextGift 32 = .ok (.iastore, 1) := by decide +kernel
theorem dX2_nextGift_33 : decode cX2_nextGift 33 = .ok (.return_, 1) := by decide +kernel
theorem dX2_nextGift_34 : decode cX2_nextGift 34 = .ok (.aload_n 0, 1) := by decide +kernel
theorem dX2_nextGift_35 : decode cX2_nextGift 35 = .ok (.getfield 18, 3) := by decide +kernel
theorem dX2_nextGift_38 : decode cX2_nextGift 38 = .ok (.iload_n 1, 1) := by decide +kernel
theorem dX2_nextGift_39 : decode cX2_nextGift 39 = .ok (.iconst 0, 1) := by decide +kernel
theorem dX2_nextGift_40 : decode cX2_nextGift 40 = .ok (.iastore, 1) := by decide +kernel
theorem dX2_nextGift_41 : decode cX2_nextGift 41 = .ok (.iinc 1 1, 3) := by decide +kernel
theorem dX2_nextGift_44 : decode cX2_nextGift 44 = .ok (.goto (-42), 3) := by decide +kernel
theorem dX2_nextGift_47 : decode cX2_nextGift 47 = .ok (.return_, 1) := by decide +kernel
