theorem dX5_init_0 : decode cX5_init 0 = .ok (.aload_n 0, 1) := by decide +kernel
theorem dX5_init_1 : decode cX5_init 1 = .ok (.invokespecial 1, 3) := by decide +kernel
theorem dX5_init_4 : decode cX5_init 4 = .ok (.aload_n 0, 1) := by decide +kernel
theorem dX5_init_5 : decode cX5_init 5 = .ok (.bipush 6, 2) := by decide +kernel
theorem dX5_init_7 : decode cX5_init 7 = .ok (.newarray .int, 2) := by decide +kernel
theorem dX5_init_9 : decode cX5_init 9 = .ok (.putfield 7, 3) := by decide +kernel
theorem dX5_init_12 : decode cX5_init 12 = .ok (.aload_n 0, 1) := by decide +kernel
theorem dX5_init_13 : decode cX5_init 13 = .ok (.bipush 12, 2) := by decide +kernel
theorem dX5_init_15 : decode cX5_init 15 = .ok (.newarray .int, 2) := by decide +kernel
theorem dX5_init_17 : decode cX5_init 17 = .ok (.putfield 13, 3) := by decide +kernel
theorem dX5_init_20 : decode cX5_init 20 = .ok (.aload_n 0, 1) := by decide +kernel
theorem dX5_init_21 : decode cX5_init 21 = .ok (.sipush 216, 3) := by decide +kernel
theorem dX5_init_24 : decode cX5_init 24 = .ok (.newarray .int, 2) := by decide +kernel
theorem dX5_init_26 : decode cX5_init 26 = .ok (.putfield 16, 3) := by decide +kernel
theorem dX5_init_29 : decode cX5_init 29 = .ok (.aload_n 0, 1) := by decide +kernel
theorem dX5_init_30 : decode cX5_init 30 = .ok (.bipush 18, 2) := by decide +kernel
theorem dX5_init_32 : decode cX5_init 32 = .ok (.newarray .int, 2) := by decide +kernel
theorem dX5_init_34 : decode cX5_init 34 = .ok (.putfield 19, 3) := by decide +kernel
theorem dX5_init_37 : decode cX5_init 37 = .ok (.aload_n 0, 1) := by decide +kernel
theorem dX5_init_38 : decode cX5_init 38 = .ok (.bipush 20, 2) := by decide +kernel
theorem dX5_init_40 : decode cX5_init 40 = .ok (.newarray .int, 2) := by decide +kernel
theorem dX5_init_42 : decode cX5_init 42 = .ok (.putfield 22, 3) := by decide +kernel
theorem dX5_init_45 : decode cX5_init 45 = .ok (.aload_n 0, 1) := by decide +kernel
theorem dX5_init_46 : decode cX5_init 46 = .ok (.bipush (-9), 2) := by decide +kernel
theorem dX5_init_48 : decode cX5_init 48 = .ok (.putfield 25, 3) := by decide +kernel
theorem dX5_init_51 : decode cX5_init 51 = .ok (.aload_n 0, 1) := by decide +kernel
theorem dX5_init_52 : decode cX5_init 52 = .ok (.sipush 6930, 3) := by decide +kernel
theorem dX5_init_55 : decode cX5_init 55 = .ok (.newarray .int, 2) := by decide +kernel
theorem dX5_init_57 : decode cX5_init 57 = .ok (.putfield 29, 3) := by decide +kernel
theorem dX5_init_60 : decode cX5_init 60 = .ok (.aload_n 0, 1) := by decide +kernel
theorem dX5_init_61 : decode cX5_init 61 = .ok (.sipush 385, 3) := by decide +kernel
theorem dX5_init_64 : decode cX5_init 64 = .ok (.newarray .int, 2) := by decide +kernel
theorem dX5_init_66 : decode cX5_init 66 = .ok (.putfield 32, 3) := by decide +kernel
theorem dX5_init_69 : decode cX5_init 69 = .ok (.aload_n 0, 1) := by decide +kernel
theorem dX5_init_70 : decode cX5_init 70 = .ok (.sipush 385, 3) := by decide +kernel
theorem dX5_init_73 : decode cX5_init 73 = .ok (.newarray .int, 2) := by decide +kernel
theorem dX5_init_75 : decode cX5_init 75 = .ok (.putfield 35, 3) := by decide +kernel
theorem dX5_init_78 : decode cX5_init 78 = .ok (.aload_n 0, 1) := by decide +kernel
theorem dX5_init_79 : decode cX5_init 79 = .ok (.sipush 385, 3) := by decide +kernel
theorem dX5_init_82 : decode cX5_init 82 = .ok (.newarray .int, 2) := by decide +kernel
theorem dX5_init_84 : decode cX5_init 84 = .ok (.putfield 38, 3) := by decide +kernel
theorem dX5_init_87 : decode cX5_init 87 = .ok (.aload_n 0, 1) := by decide +kernel
theorem dX5_init_88 : decode cX5_init 88 = .ok (.sipush 385, 3) := by decide +kernel
theorem dX5_init_91 : decode cX5_init 91 = .ok (.newarray .int, 2) := by decide +kernel
theorem dX5_init_93 : decode cX5_init 93 = .ok (.putfield 41, 3) := by decide +kernel
theorem dX5_init_96 : decode cX5_init 96 = .ok (.aload_n 0, 1) := by decide +kernel
theorem dX5_init_97 : decode cX5_init 97 = .ok (.sipush 385, 3) := by decide +kernel
theorem dX5_init_100 : decode cX5_init 100 = .ok (.newarray .int, 2) := by decide +kernel
theorem dX5_init_102 : decode cX5_init 102 = .ok (.putfield 44, 3) := by decide +kernel
theorem dX5_init_105 : decode cX5_init 105 = .ok (.aload_n 0, 1) := by decide +kernel
theorem dX5_init_106 : decode cX5_init 106 = .ok (.sipush 385, 3) := by decide +kernel
theorem dX5_init_109 : decode cX5_init 109 = .ok (.newarray .int, 2) := by decide +kernel
theorem dX5_init_111 : decode cX5_init 111 = .ok (.putfield 47, 3) := by decide +kernel
theorem dX5_init_114 : decode cX5_init 114 = .ok (.aload_n 0, 1) := by decide +kernel
theorem dX5_init_115 : decode cX5_init 115 = .ok (.sipush 385, 3) := by decide +kernel
theorem dX5_init_118 : decode cX5_init 118 = .ok (.newarray .long, 2) := by decide +kernel
theorem dX5_init_120 : decode cX5_init 120 = .ok (.putfield 50, 3) := by decide +kernel
theorem dX5_init_123 : decode cX5_init 123 = .ok (.aload_n 0, 1) := by decide +kernel
theorem dX5_init_124 : decode cX5_init 124 = .ok (.bipush 18, 2) := by decide +kernel
theorem dX5_init_126 : decode cX5_init 126 = .ok (.newarray .int, 2) := by decide +kernel
theorem dX5_init_128 : decode cX5_init 128 = .ok (.putfield 54, 3) := by decide +kernel
theorem dX5_init_131 : decode cX5_init 131 = .ok (.aload_n 0, 1) := by decide +kernel
theorem dX5_init_132 : decode cX5_init 132 = .ok (.bipush 18, 2) := by decide +kernel
theorem dX5_init_134 : decode cX5_init 134 = .ok (.newarray .int, 2) := by decide +kernel
theorem dX5_init_136 : decode cX5_init 136 = .ok (.putfield 57, 3) := by decide +kernel
theorem dX5_init_139 : decode cX5_init 139 = .ok (.aload_n 0, 1) := by decide +kernel
theorem dX5_init_140 : decode cX5_init 140 = .ok (.bipush 18, 2) := by decide +kernel
theorem dX5_init_142 : decode cX5_init 142 = .ok (.newarray .int, 2) := by decide +kernel
theorem dX5_init_144 : decode cX5_init 144 = .ok (.putfield 60, 3) := by decide +kernel
theorem dX5_init_147 : decode cX5_init 147 = .ok (.aload_n 0, 1) := by decide +kernel
theorem dX5_init_148 : decode cX5_init 148 = .ok (.sipush 385, 3) := by decide +kernel
theorem dX5_init_151 : decode cX5_init 151 = .ok (.newarray .long, 2) := by decide +kernel
theorem dX5_init_153 : decode cX5_init 153 = .ok (.putfield 63, 3) := by decide +kernel
theorem dX5_init_156 : decode cX5_init 156 = .ok (.iconst 0, 1) := by decide +kernel
theorem dX5_init_157 : decode cX5_init 157 = .ok (.istore_n 1, 1) := by decide +kernel
theorem dX5_init_158 : decode cX5_init 158 = .ok (.iload_n 1, 1) := by decide +kernel
theorem dX5_init_159 : decode cX5_init 159 = .ok (.bipush 12, 2) := by decide +kernel
theorem dX5_init_161 : decode cX5_init 161 = .ok (.if_icmp .ge 17, 3) := by decide +kernel
theorem dX5_init_164 : decode cX5_init 164 = .ok (.aload_n 0, 1) := by decide +kernel
theorem dX5_init_165 : decode cX5_init 165 = .ok (.getfield 13, 3) := by decide +kernel
theorem dX5_init_168 : decode cX5_init 168 = .ok (.iload_n 1, 1) := by decide +kernel
theorem dX5_init_169 : decode cX5_init 169 = .ok (.bipush (-9), 2) := by decide +kernel
theorem dX5_init_171 : decode cX5_init 171 = .ok (.iastore, 1) := by decide +kernel
theorem dX5_init_172 : decode cX5_init 172 = .ok (.iinc 1 1, 3) := by decide +kernel
theorem dX5_init_175 : decode cX5_init 175 = .ok (.goto (-17), 3) := by decide +kernel
theorem dX5_init_178 : decode cX5_init 178 = .ok (.return_, 1) := by decide +kernel
theorem dX5_in_0 : decode cX5_in 0 = .ok (.iload_n 0, 1) := by decide +kernel
theorem dX5_in_1 : decode cX5_in 1 = .ok (.iload_n 1, 1) := by decide +kernel
theorem dX5_in_2 : decode cX5_in 2 = .ok (.if_icmp .lt 12, 3) := by decide +kernel
theorem dX5_in_5 : decode cX5_in 5 = .ok (.iload_n 0, 1) := by decide +kernel
theorem dX5_in_6 : decode cX5_in 6 = .ok (.iload_n 2, 1) := by decide +kernel
theorem dX5_in_7 : decode cX5_in 7 = .ok (.if_icmp .gt 7, 3) := by decide +kernel
theorem dX5_in_10 : decode cX5_in 10 = .ok (.iconst 1, 1) := by decide +kernel
theorem dX5_in_11 : decode cX5_in 11 = .ok (.goto 4, 3) := by decide +kernel
theorem dX5_in_14 : decode cX5_in 14 = .ok (.iconst 0, 1) := by decide +kernel
theorem dX5_in_15 : decode cX5_in 15 = .ok (.ireturn, 1) := by decide +kernel
theorem dX5_meets_0 : decode cX5_meets 0 = .ok (.aload_n 0, 1) := by decide +kernel
theorem dX5_meets_1 : decode cX5_meets 1 = .ok (.iload_n 1, 1) := by decide +kernel
theorem dX5_meets_2 : decode cX5_meets 2 = .ok (.putfield 66, 3) := by decide +kernel
theorem dX5_meets_5 : decode cX5_meets 5 = .ok (.aload_n 0, 1) := by decide +kernel
theorem dX5_meets_6 : decode cX5_meets 6 = .ok (.getfield 7, 3) := by decide +kernel
theorem dX5_meets_9 : decode cX5_meets 9 = .ok (.iload_n 1, 1) := by decide +kernel
theorem dX5_meets_10 : decode cX5_meets 10 = .ok (.dup2, 1) := by decide +kernel
theorem dX5_meets_11 : decode cX5_meets 11 = .ok (.iaload, 1) := by decide +kernel
theorem dX5_meets_12 : decode cX5_meets 12 = .ok (.iconst 1, 1) := by decide +kernel
theorem dX5_meets_13 : decode cX5_meets 13 = .ok (.iadd, 1) := by decide +kernel
theorem dX5_meets_14 : decode cX5_meets 14 = .ok (.iastore, 1) := by decide +kernel
theorem dX5_meets_15 : decode cX5_meets 15 = .ok (.bipush (-3), 2) := by decide +kernel
theorem dX5_meets_17 : decode cX5_meets 17 = .ok (.ireturn, 1) := by decide +kernel
theorem dX5_isParting_0 : decode cX5_isParting 0 = .ok (.iload_n 0, 1) := by decide +kernel
theorem dX5_isParting_1 : decode cX5_isParting 1 = .ok (.iconst 0, 1) := by decide +kernel
theorem dX5_isParting_2 : decode cX5_isParting 2 = .ok (.bipush 11, 2) := by decide +kernel
theorem dX5_isParting_4 : decode cX5_isParting 4 = .ok (.invokestatic 69, 3) := by decide +kernel
theorem dX5_isParting_7 : decode cX5_isParting 7 = .ok (.ireturn, 1) := by decide +kernel
theorem dX5_looked_0 : decode cX5_looked 0 = .ok (.iload_n 1, 1) := by decide +kernel
theorem dX5_looked_1 : decode cX5_looked 1 = .ok (.invokestatic 73, 3) := by decide +kernel
theorem dX5_looked_4 : decode cX5_looked 4 = .ok (.ifCond .ne 7, 3) := by decide +kernel
theorem dX5_looked_7 : decode cX5_looked 7 = .ok (.iconst (-1), 1) := by decide +kernel
theorem dX5_looked_8 : decode cX5_looked 8 = .ok (.goto 21, 3) := by decide +kernel
theorem dX5_looked_11 : decode cX5_looked 11 = .ok (.aload_n 0, 1) := by decide +kernel
theorem dX5_looked_12 : decode cX5_looked 12 = .ok (.getfield 13, 3) := by decide +kernel
theorem dX5_looked_15 : decode cX5_looked 15 = .ok (.iload_n 1, 1) := by decide +kernel
theorem dX5_looked_16 : decode cX5_looked 16 = .ok (.iaload, 1) := by decide +kernel
theorem dX5_looked_17 : decode cX5_looked 17 = .ok (.ifCond .ge 11, 3) := by decide +kernel
theorem dX5_looked_20 : decode cX5_looked 20 = .ok (.aload_n 0, 1) := by decide +kernel
theorem dX5_looked_21 : decode cX5_looked 21 = .ok (.iconst 1, 1) := by decide +kernel
theorem dX5_looked_22 : decode cX5_looked 22 = .ok (.invokevirtual 77, 3) := by decide +kernel
theorem dX5_looked_25 : decode cX5_looked 25 = .ok (.goto 4, 3) := by decide +kernel
theorem dX5_looked_28 : decode cX5_looked 28 = .ok (.iconst 0, 1) := by decide +kernel
theorem dX5_looked_29 : decode cX5_looked 29 = .ok (.ireturn, 1) := by decide +kernel
theorem dX5_cards_0 : decode cX5_cards 0 = .ok (.iconst 0, 1) := by decide +kernel
theorem dX5_cards_1 : decode cX5_cards 1 = .ok (.istore_n 2, 1) := by decide +kernel
theorem dX5_cards_2 : decode cX5_cards 2 = .ok (.iconst 0, 1) := by decide +kernel
theorem dX5_cards_3 : decode cX5_cards 3 = .ok (.istore_n 3, 1) := by decide +kernel
theorem dX5_cards_4 : decode cX5_cards 4 = .ok (.iload_n 3, 1) := by decide +kernel
theorem dX5_cards_5 : decode cX5_cards 5 = .ok (.aload_n 0, 1) := by decide +kernel
theorem dX5_cards_6 : decode cX5_cards 6 = .ok (.getfield 13, 3) := by decide +kernel
theorem dX5_cards_9 : decode cX5_cards 9 = .ok (.iload_n 1, 1) := by decide +kernel
theorem dX5_cards_10 : decode cX5_cards 10 = .ok (.iaload, 1) := by decide +kernel
theorem dX5_cards_11 : decode cX5_cards 11 = .ok (.if_icmp .ge 23, 3) := by decide +kernel
theorem dX5_cards_14 : decode cX5_cards 14 = .ok (.iload_n 2, 1) := by decide +kernel
theorem dX5_cards_15 : decode cX5_cards 15 = .ok (.aload_n 0, 1) := by decide +kernel
theorem dX5_cards_16 : decode cX5_cards 16 = .ok (.getfield 16, 3) := by decide +kernel
theorem dX5_cards_19 : decode cX5_cards 19 = .ok (.bipush 18, 2) := by decide +kernel
theorem dX5_cards_21 : decode cX5_cards 21 = .ok (.iload_n 1, 1) := by decide +kernel
theorem dX5_cards_22 : decode cX5_cards 22 = .ok (.imul, 1) := by decide +kernel
theorem dX5_cards_23 : decode cX5_cards 23 = .ok (.iload_n 3, 1) := by decide +kernel
theorem dX5_cards_24 : decode cX5_cards 24 = .ok (.iadd, 1) := by decide +kernel
theorem dX5_cards_25 : decode cX5_cards 25 = .ok (.iaload, 1) := by decide +kernel
theorem dX5_cards_26 : decode cX5_cards 26 = .ok (.iadd, 1) := by decide +kernel
theorem dX5_cards_27 : decode cX5_cards 27 = .ok (.istore_n 2, 1) := by decide +kernel
theorem dX5_cards_28 : decode cX5_cards 28 = .ok (.iinc 3 1, 3) := by decide +kernel
theorem dX5_cards_31 : decode cX5_cards 31 = .ok (.goto (-27), 3) := by decide +kernel
theorem dX5_cards_34 : decode cX5_cards 34 = .ok (.iload_n 2, 1) := by decide +kernel
theorem dX5_cards_35 : decode cX5_cards 35 = .ok (.ireturn, 1) := by decide +kernel
theorem dX5_parting_0 : decode cX5_parting 0 = .ok (.iload_n 1, 1) := by decide +kernel
theorem dX5_parting_1 : decode cX5_parting 1 = .ok (.invokestatic 73, 3) := by decide +kernel
theorem dX5_parting_4 : decode cX5_parting 4 = .ok (.ifCond .ne 5, 3) := by decide +kernel
theorem dX5_parting_7 : decode cX5_parting 7 = .ok (.iconst (-1), 1) := by decide +kernel
theorem dX5_parting_8 : decode cX5_parting 8 = .ok (.ireturn, 1) := by decide +kernel
theorem dX5_parting_9 : decode cX5_parting 9 = .ok (.aload_n 0, 1) := by decide +kernel
theorem dX5_parting_10 : decode cX5_parting 10 = .ok (.getfield 13, 3) := by decide +kernel
theorem dX5_parting_13 : decode cX5_parting 13 = .ok (.iload_n 1, 1) := by decide +kernel
theorem dX5_parting_14 : decode cX5_parting 14 = .ok (.iaload, 1) := by decide +kernel
theorem dX5_parting_15 : decode cX5_parting 15 = .ok (.ifCond .lt 7, 3) := by decide +kernel
theorem dX5_parting_18 : decode cX5_parting 18 = .ok (.iconst 1, 1) := by decide +kernel
theorem dX5_parting_19 : decode cX5_parting 19 = .ok (.goto 4, 3) := by decide +kernel
theorem dX5_parting_22 : decode cX5_parting 22 = .ok (.iconst 0, 1) := by decide +kernel
theorem dX5_parting_23 : decode cX5_parting 23 = .ok (.istore_n 2, 1) := by decide +kernel
theorem dX5_parting_24 : decode cX5_parting 24 = .ok (.aload_n 0, 1) := by decide +kernel
theorem dX5_parting_25 : decode cX5_parting 25 = .ok (.getfield 13, 3) := by decide +kernel
theorem dX5_parting_28 : decode cX5_parting 28 = .ok (.iload_n 1, 1) := by decide +kernel
theorem dX5_parting_29 : decode cX5_parting 29 = .ok (.iconst 0, 1) := by decide +kernel
theorem dX5_parting_30 : decode cX5_parting 30 = .ok (.iastore, 1) := by decide +kernel
theorem dX5_parting_31 : decode cX5_parting 31 = .ok (.iload_n 2, 1) := by decide +kernel
theorem dX5_parting_32 : decode cX5_parting 32 = .ok (.ireturn, 1) := by decide +kernel
theorem dX5_put_0 : decode cX5_put 0 = .ok (.aload_n 0, 1) := by decide +kernel
theorem dX5_put_1 : decode cX5_put 1 = .ok (.getfield 13, 3) := by decide +kernel
theorem dX5_put_4 : decode cX5_put 4 = .ok (.iload_n 1, 1) := by decide +kernel
theorem dX5_put_5 : decode cX5_put 5 = .ok (.iaload, 1) := by decide +kernel
theorem dX5_put_6 : decode cX5_put 6 = .ok (.istore_n 3, 1) := by decide +kernel
theorem dX5_put_7 : decode cX5_put 7 = .ok (.iload_n 3, 1) := by decide +kernel
theorem dX5_put_8 : decode cX5_put 8 = .ok (.ifCond .le 50, 3) := by decide +kernel
theorem dX5_put_11 : decode cX5_put 11 = .ok (.aload_n 0, 1) := by decide +kernel
theorem dX5_put_12 : decode cX5_put 12 = .ok (.getfield 16, 3) := by decide +kernel
theorem dX5_put_15 : decode cX5_put 15 = .ok (.bipush 18, 2) := by decide +kernel
theorem dX5_put_17 : decode cX5_put 17 = .ok (.iload_n 1, 1) := by decide +kernel
theorem dX5_put_18 : decode cX5_put 18 = .ok (.imul, 1) := by decide +kernel
theorem dX5_put_19 : decode cX5_put 19 = .ok (.iload_n 3, 1) := by decide +kernel
theorem dX5_put_20 : decode cX5_put 20 = .ok (.iadd, 1) := by decide +kernel
theorem dX5_put_21 : decode cX5_put 21 = .ok (.iconst 1, 1) := by decide +kernel
theorem dX5_put_22 : decode cX5_put 22 = .ok (.isub, 1) := by decide +kernel
theorem dX5_put_23 : decode cX5_put 23 = .ok (.iaload, 1) := by decide +kernel
theorem dX5_put_24 : decode cX5_put 24 = .ok (.iload_n 2, 1) := by decide +kernel
theorem dX5_put_25 : decode cX5_put 25 = .ok (.if_icmp .ge 33, 3) := by decide +kernel
theorem dX5_put_28 : decode cX5_put 28 = .ok (.aload_n 0, 1) := by decide +kernel
theorem dX5_put_29 : decode cX5_put 29 = .ok (.getfield 16, 3) := by decide +kernel
theorem dX5_put_32 : decode cX5_put 32 = .ok (.bipush 18, 2) := by decide +kernel
theorem dX5_put_34 : decode cX5_put 34 = .ok (.iload_n 1, 1) := by decide +kernel
theorem dX5_put_35 : decode cX5_put 35 = .ok (.imul, 1) := by decide +kernel
theorem dX5_put_36 : decode cX5_put 36 = .ok (.iload_n 3, 1) := by decide +kernel
theorem dX5_put_37 : decode cX5_put 37 = .ok (.iadd, 1) := by decide +kernel
theorem dX5_put_38 : decode cX5_put 38 = .ok (.aload_n 0, 1) := by decide +kernel
theorem dX5_put_39 : decode cX5_put 39 = .ok (.getfield 16, 3) := by decide +kernel
theorem dX5_put_42 : decode cX5_put 42 = .ok (.bipush 18, 2) := by decide +kernel
theorem dX5_put_44 : decode cX5_put 44 = .ok (.iload_n 1, 1) := by decide +kernel
theorem dX5_put_45 : decode cX5_put 45 = .ok (.imul, 1) := by decide +kernel
theorem dX5_put_46 : decode cX5_put 46 = .ok (.iload_n 3, 1) := by decide +kernel
theorem dX5_put_47 : decode cX5_put 47 = .ok (.iadd, 1) := by decide +kernel
theorem dX5_put_48 : decode cX5_put 48 = .ok (.iconst 1, 1) := by decide +kernel
theorem dX5_put_49 : decode cX5_put 49 = .ok (.isub, 1) := by decide +kernel
theorem dX5_put_50 : decode cX5_put 50 = .ok (.iaload, 1) := by decide +kernel
theorem dX5_put_51 : decode cX5_put 51 = .ok (.iastore, 1) := by decide +kernel
theorem dX5_put_52 : decode cX5_put 52 = .ok (.iinc 3 (-1), 3) := by decide +kernel
theorem dX5_put_55 : decode cX5_put 55 = .ok (.goto (-48), 3) := by decide +kernel
theorem dX5_put_58 : decode cX5_put 58 = .ok (.aload_n 0, 1) := by decide +kernel
theorem dX5_put_59 : decode cX5_put 59 = .ok (.getfield 16, 3) := by decide +kernel
theorem dX5_put_62 : decode cX5_put 62 = .ok (.bipush 18, 2) := by decide +kernel
theorem dX5_put_64 : decode cX5_put 64 = .ok (.iload_n 1, 1) := by decide +kernel
theorem dX5_put_65 : decode cX5_put 65 = .ok (.imul, 1) := by decide +kernel
theorem dX5_put_66 : decode cX5_put 66 = .ok (.iload_n 3, 1) := by decide +kernel
theorem dX5_put_67 : decode cX5_put 67 = .ok (.iadd, 1) := by decide +kernel
theorem dX5_put_68 : decode cX5_put 68 = .ok (.iload_n 2, 1) := by decide +kernel
theorem dX5_put_69 : decode cX5_put 69 = .ok (.iastore, 1) := by decide +kernel
theorem dX5_put_70 : decode cX5_put 70 = .ok (.aload_n 0, 1) := by decide +kernel
theorem dX5_put_71 : decode cX5_put 71 = .ok (.getfield 13, 3) := by decide +kernel
theorem dX5_put_74 : decode cX5_put 74 = .ok (.iload_n 1, 1) := by decide +kernel
theorem dX5_put_75 : decode cX5_put 75 = .ok (.dup2, 1) := by decide +kernel
theorem dX5_put_76 : decode cX5_put 76 = .ok (.iaload, 1) := by decide +kernel
theorem dX5_put_77 : decode cX5_put 77 = .ok (.iconst 1, 1) := by decide +kernel
theorem dX5_put_78 : decode cX5_put 78 = .ok (.iadd, 1) := by decide +kernel
theorem dX5_put_79 : decode cX5_put 79 = .ok (.iastore, 1) := by decide +kernel
theorem dX5_put_80 : decode cX5_put 80 = .ok (.return_, 1) := by decide +kernel
theorem dX5_heap_0 : decode cX5_heap 0 = .ok (.iload_n 2, 1) := by decide +kernel
theorem dX5_heap_1 : decode cX5_heap 1 = .ok (.iconst 1, 1) := by decide +kernel
theorem dX5_heap_2 : decode cX5_heap 2 = .ok (.bipush 18, 2) := by decide +kernel
theorem dX5_heap_4 : decode cX5_heap 4 = .ok (.invokestatic 69, 3) := by decide +kernel
theorem dX5_heap_7 : decode cX5_heap 7 = .ok (.ifCond .ne 5, 3) := by decide +kernel
theorem dX5_heap_10 : decode cX5_heap 10 = .ok (.iconst (-1), 1) := by decide +kernel
theorem dX5_heap_11 : decode cX5_heap 11 = .ok (.ireturn, 1) := by decide +kernel
theorem dX5_heap_12 : decode cX5_heap 12 = .ok (.aload_n 0, 1) := by decide +kernel
theorem dX5_heap_13 : decode cX5_heap 13 = .ok (.iload_n 1, 1) := by decide +kernel
theorem dX5_heap_14 : decode cX5_heap 14 = .ok (.invokevirtual 81, 3) := by decide +kernel
theorem dX5_heap_17 : decode cX5_heap 17 = .ok (.istore_n 3, 1) := by decide +kernel
theorem dX5_heap_18 : decode cX5_heap 18 = .ok (.iload_n 3, 1) := by decide +kernel
theorem dX5_heap_19 : decode cX5_heap 19 = .ok (.ifCond .ge 5, 3) := by decide +kernel
theorem dX5_heap_22 : decode cX5_heap 22 = .ok (.iload_n 3, 1) := by decide +kernel
theorem dX5_heap_23 : decode cX5_heap 23 = .ok (.ireturn, 1) := by decide +kernel
theorem dX5_heap_24 : decode cX5_heap 24 = .ok (.aload_n 0, 1) := by decide +kernel
theorem dX5_heap_25 : decode cX5_heap 25 = .ok (.iload_n 1, 1) := by decide +kernel
theorem dX5_heap_26 : decode cX5_heap 26 = .ok (.invokevirtual 84, 3) := by decide +kernel
theorem dX5_heap_29 : decode cX5_heap 29 = .ok (.iload_n 2, 1) := by decide +kernel
theorem dX5_heap_30 : decode cX5_heap 30 = .ok (.iadd, 1) := by decide +kernel
theorem dX5_heap_31 : decode cX5_heap 31 = .ok (.bipush 18, 2) := by decide +kernel
theorem dX5_heap_33 : decode cX5_heap 33 = .ok (.if_icmp .le 6, 3) := by decide +kernel
theorem dX5_heap_36 : decode cX5_heap 36 = .ok (.bipush (-2), 2) := by decide +kernel
theorem dX5_heap_38 : decode cX5_heap 38 = .ok (.ireturn, 1) := by decide +kernel
theorem dX5_heap_39 : decode cX5_heap 39 = .ok (.aload_n 0, 1) := by decide +kernel
theorem dX5_heap_40 : decode cX5_heap 40 = .ok (.iload_n 1, 1) := by decide +kernel
theorem dX5_heap_41 : decode cX5_heap 41 = .ok (.iload_n 2, 1) := by decide +kernel
theorem dX5_heap_42 : decode cX5_heap 42 = .ok (.invokevirtual 87, 3) := by decide +kernel
theorem dX5_heap_45 : decode cX5_heap 45 = .ok (.aload_n 0, 1) := by decide +kernel
theorem dX5_heap_46 : decode cX5_heap 46 = .ok (.getfield 13, 3) := by decide +kernel
theorem dX5_heap_49 : decode cX5_heap 49 = .ok (.iload_n 1, 1) := by decide +kernel
theorem dX5_heap_50 : decode cX5_heap 50 = .ok (.iaload, 1) := by decide +kernel
theorem dX5_heap_51 : decode cX5_heap 51 = .ok (.ireturn, 1) := by decide +kernel
theorem dX5_at_0 : decode cX5_at 0 = .ok (.aload_n 0, 1) := by decide +kernel
theorem dX5_at_1 : decode cX5_at 1 = .ok (.iload_n 1, 1) := by decide +kernel
theorem dX5_at_2 : decode cX5_at 2 = .ok (.invokevirtual 81, 3) := by decide +kernel
theorem dX5_at_5 : decode cX5_at 5 = .ok (.istore_n 3, 1) := by decide +kernel
theorem dX5_at_6 : decode cX5_at 6 = .ok (.iload_n 3, 1) := by decide +kernel
theorem dX5_at_7 : decode cX5_at 7 = .ok (.ifCond .ge 7, 3) := by decide +kernel
theorem dX5_at_10 : decode cX5_at 10 = .ok (.iload_n 3, 1) := by decide +kernel
theorem dX5_at_11 : decode cX5_at 11 = .ok (.goto 52, 3) := by decide +kernel
theorem dX5_at_14 : decode cX5_at 14 = .ok (.iload_n 2, 1) := by decide +kernel
theorem dX5_at_15 : decode cX5_at 15 = .ok (.iconst (-1), 1) := by decide +kernel
theorem dX5_at_16 : decode cX5_at 16 = .ok (.if_icmp .ne 12, 3) := by decide +kernel
theorem dX5_at_19 : decode cX5_at 19 = .ok (.aload_n 0, 1) := by decide +kernel
theorem dX5_at_20 : decode cX5_at 20 = .ok (.getfield 13, 3) := by decide +kernel
theorem dX5_at_23 : decode cX5_at 23 = .ok (.iload_n 1, 1) := by decide +kernel
theorem dX5_at_24 : decode cX5_at 24 = .ok (.iaload, 1) := by decide +kernel
theorem dX5_at_25 : decode cX5_at 25 = .ok (.goto 38, 3) := by decide +kernel
theorem dX5_at_28 : decode cX5_at 28 = .ok (.iload_n 2, 1) := by decide +kernel
theorem dX5_at_29 : decode cX5_at 29 = .ok (.iconst 0, 1) := by decide +kernel
theorem dX5_at_30 : decode cX5_at 30 = .ok (.aload_n 0, 1) := by decide +kernel
theorem dX5_at_31 : decode cX5_at 31 = .ok (.getfield 13, 3) := by decide +kernel
theorem dX5_at_34 : decode cX5_at 34 = .ok (.iload_n 1, 1) := by decide +kernel
theorem dX5_at_35 : decode cX5_at 35 = .ok (.iaload, 1) := by decide +kernel
theorem dX5_at_36 : decode cX5_at 36 = .ok (.iconst 1, 1) := by decide +kernel
theorem dX5_at_37 : decode cX5_at 37 = .ok (.isub, 1) := by decide +kernel
theorem dX5_at_38 : decode cX5_at 38 = .ok (.invokestatic 69, 3) := by decide +kernel
theorem dX5_at_41 : decode cX5_at 41 = .ok (.ifCond .eq 17, 3) := by decide +kernel
theorem dX5_at_44 : decode cX5_at 44 = .ok (.aload_n 0, 1) := by decide +kernel
theorem dX5_at_45 : decode cX5_at 45 = .ok (.getfield 16, 3) := by decide +kernel
theorem dX5_at_48 : decode cX5_at 48 = .ok (.bipush 18, 2) := by decide +kernel
theorem dX5_at_50 : decode cX5_at 50 = .ok (.iload_n 1, 1) := by decide +kernel
theorem dX5_at_51 : decode cX5_at 51 = .ok (.imul, 1) := by decide +kernel
theorem dX5_at_52 : decode cX5_at 52 = .ok (.iload_n 2, 1) := by decide +kernel
theorem dX5_at_53 : decode cX5_at 53 = .ok (.iadd, 1) := by decide +kernel
theorem dX5_at_54 : decode cX5_at 54 = .ok (.iaload, 1) := by decide +kernel
theorem dX5_at_55 : decode cX5_at 55 = .ok (.goto 8, 3) := by decide +kernel
theorem dX5_at_58 : decode cX5_at 58 = .ok (.aload_n 0, 1) := by decide +kernel
theorem dX5_at_59 : decode cX5_at 59 = .ok (.iconst 2, 1) := by decide +kernel
theorem dX5_at_60 : decode cX5_at 60 = .ok (.invokevirtual 77, 3) := by decide +kernel
theorem dX5_at_63 : decode cX5_at 63 = .ok (.ireturn, 1) := by decide +kernel
theorem dX5_take_0 : decode cX5_take 0 = .ok (.aload_n 0, 1) := by decide +kernel
theorem dX5_take_1 : decode cX5_take 1 = .ok (.iload_n 1, 1) := by decide +kernel
theorem dX5_take_2 : decode cX5_take 2 = .ok (.invokevirtual 81, 3) := by decide +kernel
theorem dX5_take_5 : decode cX5_take 5 = .ok (.istore_n 3, 1) := by decide +kernel
theorem dX5_take_6 : decode cX5_take 6 = .ok (.iload_n 3, 1) := by decide +kernel
theorem dX5_take_7 : decode cX5_take 7 = .ok (.ifCond .ge 5, 3) := by decide +kernel
theorem dX5_take_10 : decode cX5_take 10 = .ok (.iload_n 3, 1) := by decide +kernel
theorem dX5_take_11 : decode cX5_take 11 = .ok (.ireturn, 1) := by decide +kernel
theorem dX5_take_12 : decode cX5_take 12 = .ok (.iload_n 2, 1) := by decide +kernel
theorem dX5_take_13 : decode cX5_take 13 = .ok (.iconst 0, 1) := by decide +kernel
theorem dX5_take_14 : decode cX5_take 14 = .ok (.aload_n 0, 1) := by decide +kernel
theorem dX5_take_15 : decode cX5_take 15 = .ok (.getfield 13, 3) := by decide +kernel
theorem dX5_take_18 : decode cX5_take 18 = .ok (.iload_n 1, 1) := by decide +kernel
theorem dX5_take_19 : decode cX5_take 19 = .ok (.iaload, 1) := by decide +kernel
theorem dX5_take_20 : decode cX5_take 20 = .ok (.iconst 1, 1) := by decide +kernel
theorem dX5_take_21 : decode cX5_take 21 = .ok (.isub, 1) := by decide +kernel
theorem dX5_take_22 : decode cX5_take 22 = .ok (.invokestatic 69, 3) := by decide +kernel
theorem dX5_take_25 : decode cX5_take 25 = .ok (.ifCond .ne 9, 3) := by decide +kernel
theorem dX5_take_28 : decode cX5_take 28 = .ok (.aload_n 0, 1) := by decide +kernel
theorem dX5_take_29 : decode cX5_take 29 = .ok (.iconst 2, 1) := by decide +kernel
theorem dX5_take_30 : decode cX5_take 30 = .ok (.invokevirtual 77, 3) := by decide +kernel
theorem dX5_take_33 : decode cX5_take 33 = .ok (.ireturn, 1) := by decide +kernel
theorem dX5_take_34 : decode cX5_take 34 = .ok (.aload_n 0, 1) := by decide +kernel
theorem dX5_take_35 : decode cX5_take 35 = .ok (.getfield 16, 3) := by decide +kernel
theorem dX5_take_38 : decode cX5_take 38 = .ok (.bipush 18, 2) := by decide +kernel
theorem dX5_take_40 : decode cX5_take 40 = .ok (.iload_n 1, 1) := by decide +kernel
theorem dX5_take_41 : decode cX5_take 41 = .ok (.imul, 1) := by decide +kernel
theorem dX5_take_42 : decode cX5_take 42 = .ok (.iload_n 2, 1) := by decide +kernel
theorem dX5_take_43 : decode cX5_take 43 = .ok (.iadd, 1) := by decide +kernel
theorem dX5_take_44 : decode cX5_take 44 = .ok (.iaload, 1) := by decide +kernel
theorem dX5_take_45 : decode cX5_take 45 = .ok (.istore 4, 2) := by decide +kernel
theorem dX5_take_47 : decode cX5_take 47 = .ok (.aload_n 0, 1) := by decide +kernel
theorem dX5_take_48 : decode cX5_take 48 = .ok (.getfield 13, 3) := by decide +kernel
theorem dX5_take_51 : decode cX5_take 51 = .ok (.iload_n 1, 1) := by decide +kernel
theorem dX5_take_52 : decode cX5_take 52 = .ok (.dup2, 1) := by decide +kernel
theorem dX5_take_53 : decode cX5_take 53 = .ok (.iaload, 1) := by decide +kernel
theorem dX5_take_54 : decode cX5_take 54 = .ok (.iconst 1, 1) := by decide +kernel
theorem dX5_take_55 : decode cX5_take 55 = .ok (.isub, 1) := by decide +kernel
theorem dX5_take_56 : decode cX5_take 56 = .ok (.iastore, 1) := by decide +kernel
theorem dX5_take_57 : decode cX5_take 57 = .ok (.iload_n 2, 1) := by decide +kernel
theorem dX5_take_58 : decode cX5_take 58 = .ok (.istore 5, 2) := by decide +kernel
theorem dX5_take_60 : decode cX5_take 60 = .ok (.iload 5, 2) := by decide +kernel
theorem dX5_take_62 : decode cX5_take 62 = .ok (.aload_n 0, 1) := by decide +kernel
theorem dX5_take_63 : decode cX5_take 63 = .ok (.getfield 13, 3) := by decide +kernel
theorem dX5_take_66 : decode cX5_take 66 = .ok (.iload_n 1, 1) := by decide +kernel
theorem dX5_take_67 : decode cX5_take 67 = .ok (.iaload, 1) := by decide +kernel
theorem dX5_take_68 : decode cX5_take 68 = .ok (.if_icmp .ge 35, 3) := by decide +kernel
theorem dX5_take_71 : decode cX5_take 71 = .ok (.aload_n 0, 1) := by decide +kernel
theorem dX5_take_72 : decode cX5_take 72 = .ok (.getfield 16, 3) := by decide +kernel
theorem dX5_take_75 : decode cX5_take 75 = .ok (.bipush 18, 2) := by decide +kernel
theorem dX5_take_77 : decode cX5_take 77 = .ok (.iload_n 1, 1) := by decide +kernel
theorem dX5_take_78 : decode cX5_take 78 = .ok (.imul, 1) := by decide +kernel
theorem dX5_take_79 : decode cX5_take 79 = .ok (.iload 5, 2) := by decide +kernel
theorem dX5_take_81 : decode cX5_take 81 = .ok (.iadd, 1) := by decide +kernel
theorem dX5_take_82 : decode cX5_take 82 = .ok (.aload_n 0, 1) := by decide +kernel
theorem dX5_take_83 : decode cX5_take 83 = .ok (.getfield 16, 3) := by decide +kernel
theorem dX5_take_86 : decode cX5_take 86 = .ok (.bipush 18, 2) := by decide +kernel
theorem dX5_take_88 : decode cX5_take 88 = .ok (.iload_n 1, 1) := by decide +kernel
theorem dX5_take_89 : decode cX5_take 89 = .ok (.imul, 1) := by decide +kernel
theorem dX5_take_90 : decode cX5_take 90 = .ok (.iload 5, 2) := by decide +kernel
theorem dX5_take_92 : decode cX5_take 92 = .ok (.iadd, 1) := by decide +kernel
theorem dX5_take_93 : decode cX5_take 93 = .ok (.iconst 1, 1) := by decide +kernel
theorem dX5_take_94 : decode cX5_take 94 = .ok (.iadd, 1) := by decide +kernel
theorem dX5_take_95 : decode cX5_take 95 = .ok (.iaload, 1) := by decide +kernel
theorem dX5_take_96 : decode cX5_take 96 = .ok (.iastore, 1) := by decide +kernel
theorem dX5_take_97 : decode cX5_take 97 = .ok (.iinc 5 1, 3) := by decide +kernel
theorem dX5_take_100 : decode cX5_take 100 = .ok (.goto (-40), 3) := by decide +kernel
theorem dX5_take_103 : decode cX5_take 103 = .ok (.iload 4, 2) := by decide +kernel
theorem dX5_take_105 : decode cX5_take 105 = .ok (.ireturn, 1) := by decide +kernel
theorem dX5_tear_0 : decode cX5_tear 0 = .ok (.aload_n 0, 1) := by decide +kernel
theorem dX5_tear_1 : decode cX5_tear 1 = .ok (.iload_n 1, 1) := by decide +kernel
theorem dX5_tear_2 : decode cX5_tear 2 = .ok (.invokevirtual 81, 3) := by decide +kernel
theorem dX5_tear_5 : decode cX5_tear 5 = .ok (.istore_n 2, 1) := by decide +kernel
theorem dX5_tear_6 : decode cX5_tear 6 = .ok (.iload_n 2, 1) := by decide +kernel
theorem dX5_tear_7 : decode cX5_tear 7 = .ok (.ifCond .ge 5, 3) := by decide +kernel
theorem dX5_tear_10 : decode cX5_tear 10 = .ok (.iload_n 2, 1) := by decide +kernel
theorem dX5_tear_11 : decode cX5_tear 11 = .ok (.ireturn, 1) := by decide +kernel
theorem dX5_tear_12 : decode cX5_tear 12 = .ok (.aload_n 0, 1) := by decide +kernel
theorem dX5_tear_13 : decode cX5_tear 13 = .ok (.getfield 13, 3) := by decide +kernel
theorem dX5_tear_16 : decode cX5_tear 16 = .ok (.iload_n 1, 1) := by decide +kernel
theorem dX5_tear_17 : decode cX5_tear 17 = .ok (.bipush (-9), 2) := by decide +kernel
theorem dX5_tear_19 : decode cX5_tear 19 = .ok (.iastore, 1) := by decide +kernel
theorem dX5_tear_20 : decode cX5_tear 20 = .ok (.iconst 1, 1) := by decide +kernel
theorem dX5_tear_21 : decode cX5_tear 21 = .ok (.ireturn, 1) := by decide +kernel
theorem dX5_copy_0 : decode cX5_copy 0 = .ok (.iload_n 1, 1) := by decide +kernel
theorem dX5_copy_1 : decode cX5_copy 1 = .ok (.invokestatic 73, 3) := by decide +kernel
theorem dX5_copy_4 : decode cX5_copy 4 = .ok (.ifCond .eq 11, 3) := by decide +kernel
theorem dX5_copy_7 : decode cX5_copy 7 = .ok (.iload 4, 2) := by decide +kernel
theorem dX5_copy_9 : decode cX5_copy 9 = .ok (.invokestatic 73, 3) := by decide +kernel
theorem dX5_copy_12 : decode cX5_copy 12 = .ok (.ifCond .ne 5, 3) := by decide +kernel
theorem dX5_copy_15 : decode cX5_copy 15 = .ok (.iconst (-1), 1) := by decide +kernel
theorem dX5_copy_16 : decode cX5_copy 16 = .ok (.ireturn, 1) := by decide +kernel
theorem dX5_copy_17 : decode cX5_copy 17 = .ok (.iload_n 3, 1) := by decide +kernel
theorem dX5_copy_18 : decode cX5_copy 18 = .ok (.ifCond .ge 9, 3) := by decide +kernel
theorem dX5_copy_21 : decode cX5_copy 21 = .ok (.aload_n 0, 1) := by decide +kernel
theorem dX5_copy_22 : decode cX5_copy 22 = .ok (.iconst 5, 1) := by decide +kernel
theorem dX5_copy_23 : decode cX5_copy 23 = .ok (.invokevirtual 77, 3) := by decide +kernel
theorem dX5_copy_26 : decode cX5_copy 26 = .ok (.ireturn, 1) := by decide +kernel
theorem dX5_copy_27 : decode cX5_copy 27 = .ok (.aload_n 0, 1) := by decide +kernel
theorem dX5_copy_28 : decode cX5_copy 28 = .ok (.getfield 13, 3) := by decide +kernel
theorem dX5_copy_31 : decode cX5_copy 31 = .ok (.iload_n 1, 1) := by decide +kernel
theorem dX5_copy_32 : decode cX5_copy 32 = .ok (.iaload, 1) := by decide +kernel
theorem dX5_copy_33 : decode cX5_copy 33 = .ok (.ifCond .lt 13, 3) := by decide +kernel
theorem dX5_copy_36 : decode cX5_copy 36 = .ok (.aload_n 0, 1) := by decide +kernel
theorem dX5_copy_37 : decode cX5_copy 37 = .ok (.getfield 13, 3) := by decide +kernel
theorem dX5_copy_40 : decode cX5_copy 40 = .ok (.iload 4, 2) := by decide +kernel
theorem dX5_copy_42 : decode cX5_copy 42 = .ok (.iaload, 1) := by decide +kernel
theorem dX5_copy_43 : decode cX5_copy 43 = .ok (.ifCond .ge 9, 3) := by decide +kernel
theorem dX5_copy_46 : decode cX5_copy 46 = .ok (.aload_n 0, 1) := by decide +kernel
theorem dX5_copy_47 : decode cX5_copy 47 = .ok (.iconst 1, 1) := by decide +kernel
theorem dX5_copy_48 : decode cX5_copy 48 = .ok (.invokevirtual 77, 3) := by decide +kernel
theorem dX5_copy_51 : decode cX5_copy 51 = .ok (.ireturn, 1) := by decide +kernel
theorem dX5_copy_52 : decode cX5_copy 52 = .ok (.iload_n 2, 1) := by decide +kernel
theorem dX5_copy_53 : decode cX5_copy 53 = .ok (.ifCond .lt 19, 3) := by decide +kernel
theorem dX5_copy_56 : decode cX5_copy 56 = .ok (.iload_n 2, 1) := by decide +kernel
theorem dX5_copy_57 : decode cX5_copy 57 = .ok (.i2l, 1) := by decide +kernel
theorem dX5_copy_58 : decode cX5_copy 58 = .ok (.iload_n 3, 1) := by decide +kernel
theorem dX5_copy_59 : decode cX5_copy 59 = .ok (.i2l, 1) := by decide +kernel
theorem dX5_copy_60 : decode cX5_copy 60 = .ok (.ladd, 1) := by decide +kernel
theorem dX5_copy_61 : decode cX5_copy 61 = .ok (.aload_n 0, 1) := by decide +kernel
theorem dX5_copy_62 : decode cX5_copy 62 = .ok (.getfield 13, 3) := by decide +kernel
theorem dX5_copy_65 : decode cX5_copy 65 = .ok (.iload_n 1, 1) := by decide +kernel
theorem dX5_copy_66 : decode cX5_copy 66 = .ok (.iaload, 1) := by decide +kernel
theorem dX5_copy_67 : decode cX5_copy 67 = .ok (.i2l, 1) := by decide +kernel
theorem dX5_copy_68 : decode cX5_copy 68 = .ok (.lcmp, 1) := by decide +kernel
theorem dX5_copy_69 : decode cX5_copy 69 = .ok (.ifCond .le 9, 3) := by decide +kernel
theorem dX5_copy_72 : decode cX5_copy 72 = .ok (.aload_n 0, 1) := by decide +kernel
theorem dX5_copy_73 : decode cX5_copy 73 = .ok (.iconst 2, 1) := by decide +kernel
theorem dX5_copy_74 : decode cX5_copy 74 = .ok (.invokevirtual 77, 3) := by decide +kernel
theorem dX5_copy_77 : decode cX5_copy 77 = .ok (.ireturn, 1) := by decide +kernel
theorem dX5_copy_78 : decode cX5_copy 78 = .ok (.iconst 0, 1) := by decide +kernel
theorem dX5_copy_79 : decode cX5_copy 79 = .ok (.istore 5, 2) := by decide +kernel
theorem dX5_copy_81 : decode cX5_copy 81 = .ok (.iconst 0, 1) := by decide +kernel
theorem dX5_copy_82 : decode cX5_copy 82 = .ok (.istore 6, 2) := by decide +kernel
theorem dX5_copy_84 : decode cX5_copy 84 = .ok (.iload 6, 2) := by decide +kernel
theorem dX5_copy_86 : decode cX5_copy 86 = .ok (.iload_n 3, 1) := by decide +kernel
theorem dX5_copy_87 : decode cX5_copy 87 = .ok (.if_icmp .ge 42, 3) := by decide +kernel
theorem dX5_copy_90 : decode cX5_copy 90 = .ok (.aload_n 0, 1) := by decide +kernel
theorem dX5_copy_91 : decode cX5_copy 91 = .ok (.getfield 19, 3) := by decide +kernel
theorem dX5_copy_94 : decode cX5_copy 94 = .ok (.iload 6, 2) := by decide +kernel
theorem dX5_copy_96 : decode cX5_copy 96 = .ok (.aload_n 0, 1) := by decide +kernel
theorem dX5_copy_97 : decode cX5_copy 97 = .ok (.getfield 16, 3) := by decide +kernel
theorem dX5_copy_100 : decode cX5_copy 100 = .ok (.bipush 18, 2) := by decide +kernel
theorem dX5_copy_102 : decode cX5_copy 102 = .ok (.iload_n 1, 1) := by decide +kernel
theorem dX5_copy_103 : decode cX5_copy 103 = .ok (.imul, 1) := by decide +kernel
theorem dX5_copy_104 : decode cX5_copy 104 = .ok (.iload_n 2, 1) := by decide +kernel
theorem dX5_copy_105 : decode cX5_copy 105 = .ok (.iadd, 1) := by decide +kernel
theorem dX5_copy_106 : decode cX5_copy 106 = .ok (.iload 6, 2) := by decide +kernel
theorem dX5_copy_108 : decode cX5_copy 108 = .ok (.iadd, 1) := by decide +kernel
theorem dX5_copy_109 : decode cX5_copy 109 = .ok (.iaload, 1) := by decide +kernel
theorem dX5_copy_110 : decode cX5_copy 110 = .ok (.iastore, 1) := by decide +kernel
theorem dX5_copy_111 : decode cX5_copy 111 = .ok (.iload 5, 2) := by decide +kernel
theorem dX5_copy_113 : decode cX5_copy 113 = .ok (.aload_n 0, 1) := by decide +kernel
theorem dX5_copy_114 : decode cX5_copy 114 = .ok (.getfield 19, 3) := by decide +kernel
theorem dX5_copy_117 : decode cX5_copy 117 = .ok (.iload 6, 2) := by decide +kernel
theorem dX5_copy_119 : decode cX5_copy 119 = .ok (.iaload, 1) := by decide +kernel
theorem dX5_copy_120 : decode cX5_copy 120 = .ok (.iadd, 1) := by decide +kernel
theorem dX5_copy_121 : decode cX5_copy 121 = .ok (.istore 5, 2) := by decide +kernel
theorem dX5_copy_123 : decode cX5_copy 123 = .ok (.iinc 6 1, 3) := by decide +kernel
theorem dX5_copy_126 : decode cX5_copy 126 = .ok (.goto (-42), 3) := by decide +kernel
theorem dX5_copy_129 : decode cX5_copy 129 = .ok (.aload_n 0, 1) := by decide +kernel
theorem dX5_copy_130 : decode cX5_copy 130 = .ok (.iload 4, 2) := by decide +kernel
theorem dX5_copy_132 : decode cX5_copy 132 = .ok (.invokevirtual 84, 3) := by decide +kernel
theorem dX5_copy_135 : decode cX5_copy 135 = .ok (.iload 5, 2) := by decide +kernel
theorem dX5_copy_137 : decode cX5_copy 137 = .ok (.iadd, 1) := by decide +kernel
theorem dX5_copy_138 : decode cX5_copy 138 = .ok (.bipush 18, 2) := by decide +kernel
theorem dX5_copy_140 : decode cX5_copy 140 = .ok (.if_icmp .le 6, 3) := by decide +kernel
theorem dX5_copy_143 : decode cX5_copy 143 = .ok (.bipush (-2), 2) := by decide +kernel
theorem dX5_copy_145 : decode cX5_copy 145 = .ok (.ireturn, 1) := by decide +kernel
theorem dX5_copy_146 : decode cX5_copy 146 = .ok (.iconst 0, 1) := by decide +kernel
theorem dX5_copy_147 : decode cX5_copy 147 = .ok (.istore 6, 2) := by decide +kernel
theorem dX5_copy_149 : decode cX5_copy 149 = .ok (.iload 6, 2) := by decide +kernel
theorem dX5_copy_151 : decode cX5_copy 151 = .ok (.iload_n 3, 1) := by decide +kernel
theorem dX5_copy_152 : decode cX5_copy 152 = .ok (.if_icmp .ge 22, 3) := by decide +kernel
theorem dX5_copy_155 : decode cX5_copy 155 = .ok (.aload_n 0, 1) := by decide +kernel
theorem dX5_copy_156 : decode cX5_copy 156 = .ok (.iload 4, 2) := by decide +kernel
theorem dX5_copy_158 : decode cX5_copy 158 = .ok (.aload_n 0, 1) := by decide +kernel
theorem dX5_copy_159 : decode cX5_copy 159 = .ok (.getfield 19, 3) := by decide +kernel
theorem dX5_copy_162 : decode cX5_copy 162 = .ok (.iload 6, 2) := by decide +kernel
theorem dX5_copy_164 : decode cX5_copy 164 = .ok (.iaload, 1) := by decide +kernel
theorem dX5_copy_165 : decode cX5_copy 165 = .ok (.invokevirtual 87, 3) := by decide +kernel
theorem dX5_copy_168 : decode cX5_copy 168 = .ok (.iinc 6 1, 3) := by decide +kernel
theorem dX5_copy_171 : decode cX5_copy 171 = .ok (.goto (-22), 3) := by decide +kernel
theorem dX5_copy_174 : decode cX5_copy 174 = .ok (.aload_n 0, 1) := by decide +kernel
theorem dX5_copy_175 : decode cX5_copy 175 = .ok (.getfield 13, 3) := by decide +kernel
theorem dX5_copy_178 : decode cX5_copy 178 = .ok (.iload 4, 2) := by decide +kernel
theorem dX5_copy_180 : decode cX5_copy 180 = .ok (.iaload, 1) := by decide +kernel
theorem dX5_copy_181 : decode cX5_copy 181 = .ok (.ireturn, 1) := by decide +kernel
theorem dX5_rule_0 : decode cX5_rule 0 = .ok (.iload_n 1, 1) := by decide +kernel
theorem dX5_rule_1 : decode cX5_rule 1 = .ok (.iconst 0, 1) := by decide +kernel
theorem dX5_rule_2 : decode cX5_rule 2 = .ok (.iconst 3, 1) := by decide +kernel
theorem dX5_rule_3 : decode cX5_rule 3 = .ok (.invokestatic 69, 3) := by decide +kernel
theorem dX5_rule_6 : decode cX5_rule 6 = .ok (.ifCond .ne 5, 3) := by decide +kernel
theorem dX5_rule_9 : decode cX5_rule 9 = .ok (.iconst (-1), 1) := by decide +kernel
theorem dX5_rule_10 : decode cX5_rule 10 = .ok (.ireturn, 1) := by decide +kernel
theorem dX5_rule_11 : decode cX5_rule 11 = .ok (.aload_n 0, 1) := by decide +kernel
theorem dX5_rule_12 : decode cX5_rule 12 = .ok (.getfield 91, 3) := by decide +kernel
theorem dX5_rule_15 : decode cX5_rule 15 = .ok (.istore_n 2, 1) := by decide +kernel
theorem dX5_rule_16 : decode cX5_rule 16 = .ok (.aload_n 0, 1) := by decide +kernel
theorem dX5_rule_17 : decode cX5_rule 17 = .ok (.iload_n 1, 1) := by decide +kernel
theorem dX5_rule_18 : decode cX5_rule 18 = .ok (.putfield 91, 3) := by decide +kernel
theorem dX5_rule_21 : decode cX5_rule 21 = .ok (.iload_n 2, 1) := by decide +kernel
theorem dX5_rule_22 : decode cX5_rule 22 = .ok (.ireturn, 1) := by decide +kernel
theorem dX5_load_0 : decode cX5_load 0 = .ok (.aload_n 0, 1) := by decide +kernel
theorem dX5_load_1 : decode cX5_load 1 = .ok (.aload_n 0, 1) := by decide +kernel
theorem dX5_load_2 : decode cX5_load 2 = .ok (.getfield 13, 3) := by decide +kernel
theorem dX5_load_5 : decode cX5_load 5 = .ok (.iload_n 1, 1) := by decide +kernel
theorem dX5_load_6 : decode cX5_load 6 = .ok (.iaload, 1) := by decide +kernel
theorem dX5_load_7 : decode cX5_load 7 = .ok (.putfield 94, 3) := by decide +kernel
theorem dX5_load_10 : decode cX5_load 10 = .ok (.iconst 0, 1) := by decide +kernel
theorem dX5_load_11 : decode cX5_load 11 = .ok (.istore_n 2, 1) := by decide +kernel
theorem dX5_load_12 : decode cX5_load 12 = .ok (.iload_n 2, 1) := by decide +kernel
theorem dX5_load_13 : decode cX5_load 13 = .ok (.aload_n 0, 1) := by decide +kernel
theorem dX5_load_14 : decode cX5_load 14 = .ok (.getfield 94, 3) := by decide +kernel
theorem dX5_load_17 : decode cX5_load 17 = .ok (.if_icmp .ge 26, 3) := by decide +kernel
theorem dX5_load_20 : decode cX5_load 20 = .ok (.aload_n 0, 1) := by decide +kernel
theorem dX5_load_21 : decode cX5_load 21 = .ok (.getfield 22, 3) := by decide +kernel
theorem dX5_load_24 : decode cX5_load 24 = .ok (.iload_n 2, 1) := by decide +kernel
theorem dX5_load_25 : decode cX5_load 25 = .ok (.aload_n 0, 1) := by decide +kernel
theorem dX5_load_26 : decode cX5_load 26 = .ok (.getfield 16, 3) := by decide +kernel
theorem dX5_load_29 : decode cX5_load 29 = .ok (.bipush 18, 2) := by decide +kernel
theorem dX5_load_31 : decode cX5_load 31 = .ok (.iload_n 1, 1) := by decide +kernel
theorem dX5_load_32 : decode cX5_load 32 = .ok (.imul, 1) := by decide +kernel
theorem dX5_load_33 : decode cX5_load 33 = .ok (.iload_n 2, 1) := by decide +kernel
theorem dX5_load_34 : decode cX5_load 34 = .ok (.iadd, 1) := by decide +kernel
theorem dX5_load_35 : decode cX5_load 35 = .ok (.iaload, 1) := by decide +kernel
theorem dX5_load_36 : decode cX5_load 36 = .ok (.iastore, 1) := by decide +kernel
theorem dX5_load_37 : decode cX5_load 37 = .ok (.iinc 2 1, 3) := by decide +kernel
theorem dX5_load_40 : decode cX5_load 40 = .ok (.goto (-28), 3) := by decide +kernel
theorem dX5_load_43 : decode cX5_load 43 = .ok (.return_, 1) := by decide +kernel
theorem dX5_keep_0 : decode cX5_keep 0 = .ok (.aload_n 0, 1) := by decide +kernel
theorem dX5_keep_1 : decode cX5_keep 1 = .ok (.getfield 13, 3) := by decide +kernel
theorem dX5_keep_4 : decode cX5_keep 4 = .ok (.iload_n 1, 1) := by decide +kernel
theorem dX5_keep_5 : decode cX5_keep 5 = .ok (.aload_n 0, 1) := by decide +kernel
theorem dX5_keep_6 : decode cX5_keep 6 = .ok (.getfield 94, 3) := by decide +kernel
theorem dX5_keep_9 : decode cX5_keep 9 = .ok (.iastore, 1) := by decide +kernel
theorem dX5_keep_10 : decode cX5_keep 10 = .ok (.iconst 0, 1) := by decide +kernel
theorem dX5_keep_11 : decode cX5_keep 11 = .ok (.istore_n 2, 1) := by decide +kernel
theorem dX5_keep_12 : decode cX5_keep 12 = .ok (.iload_n 2, 1) := by decide +kernel
theorem dX5_keep_13 : decode cX5_keep 13 = .ok (.aload_n 0, 1) := by decide +kernel
theorem dX5_keep_14 : decode cX5_keep 14 = .ok (.getfield 94, 3) := by decide +kernel
theorem dX5_keep_17 : decode cX5_keep 17 = .ok (.if_icmp .ge 26, 3) := by decide +kernel
theorem dX5_keep_20 : decode cX5_keep 20 = .ok (.aload_n 0, 1) := by decide +kernel
theorem dX5_keep_21 : decode cX5_keep 21 = .ok (.getfield 16, 3) := by decide +kernel
theorem dX5_keep_24 : decode cX5_keep 24 = .ok (.bipush 18, 2) := by decide +kernel
theorem dX5_keep_26 : decode cX5_keep 26 = .ok (.iload_n 1, 1) := by decide +kernel
theorem dX5_keep_27 : decode cX5_keep 27 = .ok (.imul, 1) := by decide +kernel
theorem dX5_keep_28 : decode cX5_keep 28 = .ok (.iload_n 2, 1) := by decide +kernel
theorem dX5_keep_29 : decode cX5_keep 29 = .ok (.iadd, 1) := by decide +kernel
theorem dX5_keep_30 : decode cX5_keep 30 = .ok (.aload_n 0, 1) := by decide +kernel
theorem dX5_keep_31 : decode cX5_keep 31 = .ok (.getfield 22, 3) := by decide +kernel
theorem dX5_keep_34 : decode cX5_keep 34 = .ok (.iload_n 2, 1) := by decide +kernel
theorem dX5_keep_35 : decode cX5_keep 35 = .ok (.iaload, 1) := by decide +kernel
theorem dX5_keep_36 : decode cX5_keep 36 = .ok (.iastore, 1) := by decide +kernel
theorem dX5_keep_37 : decode cX5_keep 37 = .ok (.iinc 2 1, 3) := by decide +kernel
theorem dX5_keep_40 : decode cX5_keep 40 = .ok (.goto (-28), 3) := by decide +kernel
theorem dX5_keep_43 : decode cX5_keep 43 = .ok (.return_, 1) := by decide +kernel
theorem dX5_settle_0 : decode cX5_settle 0 = .ok (.iconst 0, 1) := by decide +kernel
theorem dX5_settle_1 : decode cX5_settle 1 = .ok (.istore_n 1, 1) := by decide +kernel
theorem dX5_settle_2 : decode cX5_settle 2 = .ok (.iconst 0, 1) := by decide +kernel
theorem dX5_settle_3 : decode cX5_settle 3 = .ok (.istore_n 2, 1) := by decide +kernel
theorem dX5_settle_4 : decode cX5_settle 4 = .ok (.iload_n 2, 1) := by decide +kernel
theorem dX5_settle_5 : decode cX5_settle 5 = .ok (.aload_n 0, 1) := by decide +kernel
theorem dX5_settle_6 : decode cX5_settle 6 = .ok (.getfield 94, 3) := by decide +kernel
theorem dX5_settle_9 : decode cX5_settle 9 = .ok (.if_icmp .ge 74, 3) := by decide +kernel
theorem dX5_settle_12 : decode cX5_settle 12 = .ok (.aload_n 0, 1) := by decide +kernel
theorem dX5_settle_13 : decode cX5_settle 13 = .ok (.getfield 22, 3) := by decide +kernel
theorem dX5_settle_16 : decode cX5_settle 16 = .ok (.iload_n 2, 1) := by decide +kernel
theorem dX5_settle_17 : decode cX5_settle 17 = .ok (.iaload, 1) := by decide +kernel
theorem dX5_settle_18 : decode cX5_settle 18 = .ok (.istore_n 3, 1) := by decide +kernel
theorem dX5_settle_19 : decode cX5_settle 19 = .ok (.iload_n 3, 1) := by decide +kernel
theorem dX5_settle_20 : decode cX5_settle 20 = .ok (.ifCond .le 57, 3) := by decide +kernel
theorem dX5_settle_23 : decode cX5_settle 23 = .ok (.iload_n 1, 1) := by decide +kernel
theorem dX5_settle_24 : decode cX5_settle 24 = .ok (.istore 4, 2) := by decide +kernel
theorem dX5_settle_26 : decode cX5_settle 26 = .ok (.iload 4, 2) := by decide +kernel
theorem dX5_settle_28 : decode cX5_settle 28 = .ok (.ifCond .le 38, 3) := by decide +kernel
theorem dX5_settle_31 : decode cX5_settle 31 = .ok (.aload_n 0, 1) := by decide +kernel
theorem dX5_settle_32 : decode cX5_settle 32 = .ok (.getfield 22, 3) := by decide +kernel
theorem dX5_settle_35 : decode cX5_settle 35 = .ok (.iload 4, 2) := by decide +kernel
theorem dX5_settle_37 : decode cX5_settle 37 = .ok (.iconst 1, 1) := by decide +kernel
theorem dX5_settle_38 : decode cX5_settle 38 = .ok (.isub, 1) := by decide +kernel
theorem dX5_settle_39 : decode cX5_settle 39 = .ok (.iaload, 1) := by decide +kernel
theorem dX5_settle_40 : decode cX5_settle 40 = .ok (.iload_n 3, 1) := by decide +kernel
theorem dX5_settle_41 : decode cX5_settle 41 = .ok (.if_icmp .ge 25, 3) := by decide +kernel
theorem dX5_settle_44 : decode cX5_settle 44 = .ok (.aload_n 0, 1) := by decide +kernel
theorem dX5_settle_45 : decode cX5_settle 45 = .ok (.getfield 22, 3) := by decide +kernel
theorem dX5_settle_48 : decode cX5_settle 48 = .ok (.iload 4, 2) := by decide +kernel
theorem dX5_settle_50 : decode cX5_settle 50 = .ok (.aload_n 0, 1) := by decide +kernel
theorem dX5_settle_51 : decode cX5_settle 51 = .ok (.getfield 22, 3) := by decide +kernel
theorem dX5_settle_54 : decode cX5_settle 54 = .ok (.iload 4, 2) := by decide +kernel
theorem dX5_settle_56 : decode cX5_settle 56 = .ok (.iconst 1, 1) := by decide +kernel
theorem dX5_settle_57 : decode cX5_settle 57 = .ok (.isub, 1) := by decide +kernel
theorem dX5_settle_58 : decode cX5_settle 58 = .ok (.iaload, 1) := by decide +kernel
theorem dX5_settle_59 : decode cX5_settle 59 = .ok (.iastore, 1) := by decide +kernel
theorem dX5_settle_60 : decode cX5_settle 60 = .ok (.iinc 4 (-1), 3) := by decide +kernel
theorem dX5_settle_63 : decode cX5_settle 63 = .ok (.goto (-37), 3) := by decide +kernel
theorem dX5_settle_66 : decode cX5_settle 66 = .ok (.aload_n 0, 1) := by decide +kernel
theorem dX5_settle_67 : decode cX5_settle 67 = .ok (.getfield 22, 3) := by decide +kernel
theorem dX5_settle_70 : decode cX5_settle 70 = .ok (.iload 4, 2) := by decide +kernel
theorem dX5_settle_72 : decode cX5_settle 72 = .ok (.iload_n 3, 1) := by decide +kernel
theorem dX5_settle_73 : decode cX5_settle 73 = .ok (.iastore, 1) := by decide +kernel
theorem dX5_settle_74 : decode cX5_settle 74 = .ok (.iinc 1 1, 3) := by decide +kernel
theorem dX5_settle_77 : decode cX5_settle 77 = .ok (.iinc 2 1, 3) := by decide +kernel
theorem dX5_settle_80 : decode cX5_settle 80 = .ok (.goto (-76), 3) := by decide +kernel
theorem dX5_settle_83 : decode cX5_settle 83 = .ok (.aload_n 0, 1) := by decide +kernel
theorem dX5_settle_84 : decode cX5_settle 84 = .ok (.iload_n 1, 1) := by decide +kernel
theorem dX5_settle_85 : decode cX5_settle 85 = .ok (.putfield 94, 3) := by decide +kernel
theorem dX5_settle_88 : decode cX5_settle 88 = .ok (.return_, 1) := by decide +kernel
theorem dX5_give_0 : decode cX5_give 0 = .ok (.iconst 0, 1) := by decide +kernel
theorem dX5_give_1 : decode cX5_give 1 = .ok (.istore 4, 2) := by decide +kernel
theorem dX5_give_3 : decode cX5_give 3 = .ok (.iload_n 1, 1) := by decide +kernel
theorem dX5_give_4 : decode cX5_give 4 = .ok (.istore 5, 2) := by decide +kernel
theorem dX5_give_6 : decode cX5_give 6 = .ok (.iload 5, 2) := by decide +kernel
theorem dX5_give_8 : decode cX5_give 8 = .ok (.iload_n 2, 1) := by decide +kernel
theorem dX5_give_9 : decode cX5_give 9 = .ok (.if_icmp .ge 52, 3) := by decide +kernel
theorem dX5_give_12 : decode cX5_give 12 = .ok (.aload_n 0, 1) := by decide +kernel
theorem dX5_give_13 : decode cX5_give 13 = .ok (.getfield 22, 3) := by decide +kernel
theorem dX5_give_16 : decode cX5_give 16 = .ok (.iload 5, 2) := by decide +kernel
theorem dX5_give_18 : decode cX5_give 18 = .ok (.iaload, 1) := by decide +kernel
theorem dX5_give_19 : decode cX5_give 19 = .ok (.iload_n 3, 1) := by decide +kernel
theorem dX5_give_20 : decode cX5_give 20 = .ok (.if_icmp .ge 13, 3) := by decide +kernel
theorem dX5_give_23 : decode cX5_give 23 = .ok (.aload_n 0, 1) := by decide +kernel
theorem dX5_give_24 : decode cX5_give 24 = .ok (.getfield 22, 3) := by decide +kernel
theorem dX5_give_27 : decode cX5_give 27 = .ok (.iload 5, 2) := by decide +kernel
theorem dX5_give_29 : decode cX5_give 29 = .ok (.iaload, 1) := by decide +kernel
theorem dX5_give_30 : decode cX5_give 30 = .ok (.goto 4, 3) := by decide +kernel
theorem dX5_give_33 : decode cX5_give 33 = .ok (.iload_n 3, 1) := by decide +kernel
theorem dX5_give_34 : decode cX5_give 34 = .ok (.istore 6, 2) := by decide +kernel
theorem dX5_give_36 : decode cX5_give 36 = .ok (.aload_n 0, 1) := by decide +kernel
theorem dX5_give_37 : decode cX5_give 37 = .ok (.getfield 22, 3) := by decide +kernel
theorem dX5_give_40 : decode cX5_give 40 = .ok (.iload 5, 2) := by decide +kernel
theorem dX5_give_42 : decode cX5_give 42 = .ok (.dup2, 1) := by decide +kernel
theorem dX5_give_43 : decode cX5_give 43 = .ok (.iaload, 1) := by decide +kernel
theorem dX5_give_44 : decode cX5_give 44 = .ok (.iload 6, 2) := by decide +kernel
theorem dX5_give_46 : decode cX5_give 46 = .ok (.isub, 1) := by decide +kernel
theorem dX5_give_47 : decode cX5_give 47 = .ok (.iastore, 1) := by decide +kernel
theorem dX5_give_48 : decode cX5_give 48 = .ok (.iload 4, 2) := by decide +kernel
theorem dX5_give_50 : decode cX5_give 50 = .ok (.iload 6, 2) := by decide +kernel
theorem dX5_give_52 : decode cX5_give 52 = .ok (.iadd, 1) := by decide +kernel
theorem dX5_give_53 : decode cX5_give 53 = .ok (.istore 4, 2) := by decide +kernel
theorem dX5_give_55 : decode cX5_give 55 = .ok (.iinc 5 1, 3) := by decide +kernel
theorem dX5_give_58 : decode cX5_give 58 = .ok (.goto (-52), 3) := by decide +kernel
theorem dX5_give_61 : decode cX5_give 61 = .ok (.aload_n 0, 1) := by decide +kernel
theorem dX5_give_62 : decode cX5_give 62 = .ok (.getfield 22, 3) := by decide +kernel
theorem dX5_give_65 : decode cX5_give 65 = .ok (.aload_n 0, 1) := by decide +kernel
theorem dX5_give_66 : decode cX5_give 66 = .ok (.getfield 94, 3) := by decide +kernel
theorem dX5_give_69 : decode cX5_give 69 = .ok (.iload 4, 2) := by decide +kernel
theorem dX5_give_71 : decode cX5_give 71 = .ok (.iastore, 1) := by decide +kernel
theorem dX5_give_72 : decode cX5_give 72 = .ok (.aload_n 0, 1) := by decide +kernel
theorem dX5_give_73 : decode cX5_give 73 = .ok (.dup, 1) := by decide +kernel
theorem dX5_give_74 : decode cX5_give 74 = .ok (.getfield 94, 3) := by decide +kernel
theorem dX5_give_77 : decode cX5_give 77 = .ok (.iconst 1, 1) := by decide +kernel
theorem dX5_give_78 : decode cX5_give 78 = .ok (.iadd, 1) := by decide +kernel
theorem dX5_give_79 : decode cX5_give 79 = .ok (.putfield 94, 3) := by decide +kernel
theorem dX5_give_82 : decode cX5_give 82 = .ok (.return_, 1) := by decide +kernel
theorem dX5_goOn_0 : decode cX5_goOn 0 = .ok (.aload_n 0, 1) := by decide +kernel
theorem dX5_goOn_1 : decode cX5_goOn 1 = .ok (.getfield 94, 3) := by decide +kernel
theorem dX5_goOn_4 : decode cX5_goOn 4 = .ok (.ifCond .eq 19, 3) := by decide +kernel
theorem dX5_goOn_7 : decode cX5_goOn 7 = .ok (.aload_n 0, 1) := by decide +kernel
theorem dX5_goOn_8 : decode cX5_goOn 8 = .ok (.getfield 91, 3) := by decide +kernel
theorem dX5_goOn_11 : decode cX5_goOn 11 = .ok (.iconst 3, 1) := by decide +kernel
theorem dX5_goOn_12 : decode cX5_goOn 12 = .ok (.if_icmp .ne 12, 3) := by decide +kernel
theorem dX5_goOn_15 : decode cX5_goOn 15 = .ok (.aload_n 0, 1) := by decide +kernel
theorem dX5_goOn_16 : decode cX5_goOn 16 = .ok (.getfield 94, 3) := by decide +kernel
theorem dX5_goOn_19 : decode cX5_goOn 19 = .ok (.iconst 1, 1) := by decide +kernel
theorem dX5_goOn_20 : decode cX5_goOn 20 = .ok (.if_icmp .ne 4, 3) := by decide +kernel
theorem dX5_goOn_23 : decode cX5_goOn 23 = .ok (.return_, 1) := by decide +kernel
theorem dX5_goOn_24 : decode cX5_goOn 24 = .ok (.aload_n 0, 1) := by decide +kernel
theorem dX5_goOn_25 : decode cX5_goOn 25 = .ok (.getfield 91, 3) := by decide +kernel
theorem dX5_goOn_28 : decode cX5_goOn 28 = .ok (.ifCond .ne 16, 3) := by decide +kernel
theorem dX5_goOn_31 : decode cX5_goOn 31 = .ok (.aload_n 0, 1) := by decide +kernel
theorem dX5_goOn_32 : decode cX5_goOn 32 = .ok (.iconst 0, 1) := by decide +kernel
theorem dX5_goOn_33 : decode cX5_goOn 33 = .ok (.aload_n 0, 1) := by decide +kernel
theorem dX5_goOn_34 : decode cX5_goOn 34 = .ok (.getfield 94, 3) := by decide +kernel
theorem dX5_goOn_37 : decode cX5_goOn 37 = .ok (.iconst 1, 1) := by decide +kernel
theorem dX5_goOn_38 : decode cX5_goOn 38 = .ok (.invokevirtual 97, 3) := by decide +kernel
theorem dX5_goOn_41 : decode cX5_goOn 41 = .ok (.goto 99, 3) := by decide +kernel
theorem dX5_goOn_44 : decode cX5_goOn 44 = .ok (.aload_n 0, 1) := by decide +kernel
theorem dX5_goOn_45 : decode cX5_goOn 45 = .ok (.getfield 91, 3) := by decide +kernel
theorem dX5_goOn_48 : decode cX5_goOn 48 = .ok (.iconst 1, 1) := by decide +kernel
theorem dX5_goOn_49 : decode cX5_goOn 49 = .ok (.if_icmp .ne 13, 3) := by decide +kernel
theorem dX5_goOn_52 : decode cX5_goOn 52 = .ok (.aload_n 0, 1) := by decide +kernel
theorem dX5_goOn_53 : decode cX5_goOn 53 = .ok (.iconst 0, 1) := by decide +kernel
theorem dX5_goOn_54 : decode cX5_goOn 54 = .ok (.iconst 1, 1) := by decide +kernel
theorem dX5_goOn_55 : decode cX5_goOn 55 = .ok (.iconst 1, 1) := by decide +kernel
theorem dX5_goOn_56 : decode cX5_goOn 56 = .ok (.invokevirtual 97, 3) := by decide +kernel
theorem dX5_goOn_59 : decode cX5_goOn 59 = .ok (.goto 81, 3) := by decide +kernel
theorem dX5_goOn_62 : decode cX5_goOn 62 = .ok (.aload_n 0, 1) := by decide +kernel
theorem dX5_goOn_63 : decode cX5_goOn 63 = .ok (.getfield 91, 3) := by decide +kernel
theorem dX5_goOn_66 : decode cX5_goOn 66 = .ok (.iconst 2, 1) := by decide +kernel
theorem dX5_goOn_67 : decode cX5_goOn 67 = .ok (.if_icmp .ne 16, 3) := by decide +kernel
theorem dX5_goOn_70 : decode cX5_goOn 70 = .ok (.aload_n 0, 1) := by decide +kernel
theorem dX5_goOn_71 : decode cX5_goOn 71 = .ok (.iconst 0, 1) := by decide +kernel
theorem dX5_goOn_72 : decode cX5_goOn 72 = .ok (.aload_n 0, 1) := by decide +kernel
theorem dX5_goOn_73 : decode cX5_goOn 73 = .ok (.getfield 94, 3) := by decide +kernel
theorem dX5_goOn_76 : decode cX5_goOn 76 = .ok (.iconst 2, 1) := by decide +kernel
theorem dX5_goOn_77 : decode cX5_goOn 77 = .ok (.invokevirtual 97, 3) := by decide +kernel
theorem dX5_goOn_80 : decode cX5_goOn 80 = .ok (.goto 60, 3) := by decide +kernel
theorem dX5_goOn_83 : decode cX5_goOn 83 = .ok (.iconst 0, 1) := by decide +kernel
theorem dX5_goOn_84 : decode cX5_goOn 84 = .ok (.istore_n 1, 1) := by decide +kernel
theorem dX5_goOn_85 : decode cX5_goOn 85 = .ok (.iload_n 1, 1) := by decide +kernel
theorem dX5_goOn_86 : decode cX5_goOn 86 = .ok (.iconst 1, 1) := by decide +kernel
theorem dX5_goOn_87 : decode cX5_goOn 87 = .ok (.iadd, 1) := by decide +kernel
theorem dX5_goOn_88 : decode cX5_goOn 88 = .ok (.aload_n 0, 1) := by decide +kernel
theorem dX5_goOn_89 : decode cX5_goOn 89 = .ok (.getfield 94, 3) := by decide +kernel
theorem dX5_goOn_92 : decode cX5_goOn 92 = .ok (.if_icmp .ge 48, 3) := by decide +kernel
theorem dX5_goOn_95 : decode cX5_goOn 95 = .ok (.aload_n 0, 1) := by decide +kernel
theorem dX5_goOn_96 : decode cX5_goOn 96 = .ok (.getfield 22, 3) := by decide +kernel
theorem dX5_goOn_99 : decode cX5_goOn 99 = .ok (.aload_n 0, 1) := by decide +kernel
theorem dX5_goOn_100 : decode cX5_goOn 100 = .ok (.getfield 94, 3) := by decide +kernel
theorem dX5_goOn_103 : decode cX5_goOn 103 = .ok (.iconst 1, 1) := by decide +kernel
theorem dX5_goOn_104 : decode cX5_goOn 104 = .ok (.isub, 1) := by decide +kernel
theorem dX5_goOn_105 : decode cX5_goOn 105 = .ok (.iaload, 1) := by decide +kernel
theorem dX5_goOn_106 : decode cX5_goOn 106 = .ok (.ifCond .le 34, 3) := by decide +kernel
theorem dX5_goOn_109 : decode cX5_goOn 109 = .ok (.aload_n 0, 1) := by decide +kernel
theorem dX5_goOn_110 : decode cX5_goOn 110 = .ok (.getfield 22, 3) := by decide +kernel
theorem dX5_goOn_113 : decode cX5_goOn 113 = .ok (.iload_n 1, 1) := by decide +kernel
theorem dX5_goOn_114 : decode cX5_goOn 114 = .ok (.dup2, 1) := by decide +kernel
theorem dX5_goOn_115 : decode cX5_goOn 115 = .ok (.iaload, 1) := by decide +kernel
theorem dX5_goOn_116 : decode cX5_goOn 116 = .ok (.iconst 1, 1) := by decide +kernel
theorem dX5_goOn_117 : decode cX5_goOn 117 = .ok (.iadd, 1) := by decide +kernel
theorem dX5_goOn_118 : decode cX5_goOn 118 = .ok (.iastore, 1) := by decide +kernel
theorem dX5_goOn_119 : decode cX5_goOn 119 = .ok (.aload_n 0, 1) := by decide +kernel
theorem dX5_goOn_120 : decode cX5_goOn 120 = .ok (.getfield 22, 3) := by decide +kernel
theorem dX5_goOn_123 : decode cX5_goOn 123 = .ok (.aload_n 0, 1) := by decide +kernel
theorem dX5_goOn_124 : decode cX5_goOn 124 = .ok (.getfield 94, 3) := by decide +kernel
theorem dX5_goOn_127 : decode cX5_goOn 127 = .ok (.iconst 1, 1) := by decide +kernel
theorem dX5_goOn_128 : decode cX5_goOn 128 = .ok (.isub, 1) := by decide +kernel
theorem dX5_goOn_129 : decode cX5_goOn 129 = .ok (.dup2, 1) := by decide +kernel
theorem dX5_goOn_130 : decode cX5_goOn 130 = .ok (.iaload, 1) := by decide +kernel
theorem dX5_goOn_131 : decode cX5_goOn 131 = .ok (.iconst 1, 1) := by decide +kernel
theorem dX5_goOn_132 : decode cX5_goOn 132 = .ok (.isub, 1) := by decide +kernel
theorem dX5_goOn_133 : decode cX5_goOn 133 = .ok (.iastore, 1) := by decide +kernel
theorem dX5_goOn_134 : decode cX5_goOn 134 = .ok (.iinc 1 1, 3) := by decide +kernel
theorem dX5_goOn_137 : decode cX5_goOn 137 = .ok (.goto (-52), 3) := by decide +kernel
theorem dX5_goOn_140 : decode cX5_goOn 140 = .ok (.aload_n 0, 1) := by decide +kernel
theorem dX5_goOn_141 : decode cX5_goOn 141 = .ok (.invokevirtual 101, 3) := by decide +kernel
theorem dX5_goOn_144 : decode cX5_goOn 144 = .ok (.return_, 1) := by decide +kernel
theorem dX5_setList_0 : decode cX5_setList 0 = .ok (.aload_n 0, 1) := by decide +kernel
theorem dX5_setList_1 : decode cX5_setList 1 = .ok (.getfield 25, 3) := by decide +kernel
theorem dX5_setList_4 : decode cX5_setList 4 = .ok (.iload_n 1, 1) := by decide +kernel
theorem dX5_setList_5 : decode cX5_setList 5 = .ok (.if_icmp .ne 4, 3) := by decide +kernel
theorem dX5_setList_8 : decode cX5_setList 8 = .ok (.return_, 1) := by decide +kernel
theorem dX5_setList_9 : decode cX5_setList 9 = .ok (.aload_n 0, 1) := by decide +kernel
theorem dX5_setList_10 : decode cX5_setList 10 = .ok (.iload_n 1, 1) := by decide +kernel
theorem dX5_setList_11 : decode cX5_setList 11 = .ok (.putfield 25, 3) := by decide +kernel
theorem dX5_setList_14 : decode cX5_setList 14 = .ok (.aload_n 0, 1) := by decide +kernel
theorem dX5_setList_15 : decode cX5_setList 15 = .ok (.iconst 0, 1) := by decide +kernel
theorem dX5_setList_16 : decode cX5_setList 16 = .ok (.putfield 104, 3) := by decide +kernel
theorem dX5_setList_19 : decode cX5_setList 19 = .ok (.aload_n 0, 1) := by decide +kernel
theorem dX5_setList_20 : decode cX5_setList 20 = .ok (.iload_n 1, 1) := by decide +kernel
theorem dX5_setList_21 : decode cX5_setList 21 = .ok (.ifCond .le 7, 3) := by decide +kernel
theorem dX5_setList_24 : decode cX5_setList 24 = .ok (.iconst 1, 1) := by decide +kernel
theorem dX5_setList_25 : decode cX5_setList 25 = .ok (.goto 4, 3) := by decide +kernel
theorem dX5_setList_28 : decode cX5_setList 28 = .ok (.iconst 0, 1) := by decide +kernel
theorem dX5_setList_29 : decode cX5_setList 29 = .ok (.putfield 94, 3) := by decide +kernel
theorem dX5_setList_32 : decode cX5_setList 32 = .ok (.aload_n 0, 1) := by decide +kernel
theorem dX5_setList_33 : decode cX5_setList 33 = .ok (.getfield 22, 3) := by decide +kernel
theorem dX5_setList_36 : decode cX5_setList 36 = .ok (.iconst 0, 1) := by decide +kernel
theorem dX5_setList_37 : decode cX5_setList 37 = .ok (.iload_n 1, 1) := by decide +kernel
theorem dX5_setList_38 : decode cX5_setList 38 = .ok (.iastore, 1) := by decide +kernel
theorem dX5_setList_39 : decode cX5_setList 39 = .ok (.iconst 1, 1) := by decide +kernel
theorem dX5_setList_40 : decode cX5_setList 40 = .ok (.istore_n 2, 1) := by decide +kernel
theorem dX5_setList_41 : decode cX5_setList 41 = .ok (.iload_n 2, 1) := by decide +kernel
theorem dX5_setList_42 : decode cX5_setList 42 = .ok (.ifCond .eq 70, 3) := by decide +kernel
theorem dX5_setList_45 : decode cX5_setList 45 = .ok (.aload_n 0, 1) := by decide +kernel
theorem dX5_setList_46 : decode cX5_setList 46 = .ok (.getfield 32, 3) := by decide +kernel
theorem dX5_setList_49 : decode cX5_setList 49 = .ok (.aload_n 0, 1) := by decide +kernel
theorem dX5_setList_50 : decode cX5_setList 50 = .ok (.getfield 104, 3) := by decide +kernel
theorem dX5_setList_53 : decode cX5_setList 53 = .ok (.aload_n 0, 1) := by decide +kernel
theorem dX5_setList_54 : decode cX5_setList 54 = .ok (.getfield 94, 3) := by decide +kernel
theorem dX5_setList_57 : decode cX5_setList 57 = .ok (.iastore, 1) := by decide +kernel
theorem dX5_setList_58 : decode cX5_setList 58 = .ok (.iconst 0, 1) := by decide +kernel
theorem dX5_setList_59 : decode cX5_setList 59 = .ok (.istore_n 3, 1) := by decide +kernel
theorem dX5_setList_60 : decode cX5_setList 60 = .ok (.iload_n 3, 1) := by decide +kernel
theorem dX5_setList_61 : decode cX5_setList 61 = .ok (.aload_n 0, 1) := by decide +kernel
theorem dX5_setList_62 : decode cX5_setList 62 = .ok (.getfield 94, 3) := by decide +kernel
theorem dX5_setList_65 : decode cX5_setList 65 = .ok (.if_icmp .ge 29, 3) := by decide +kernel
theorem dX5_setList_68 : decode cX5_setList 68 = .ok (.aload_n 0, 1) := by decide +kernel
theorem dX5_setList_69 : decode cX5_setList 69 = .ok (.getfield 29, 3) := by decide +kernel
theorem dX5_setList_72 : decode cX5_setList 72 = .ok (.bipush 18, 2) := by decide +kernel
theorem dX5_setList_74 : decode cX5_setList 74 = .ok (.aload_n 0, 1) := by decide +kernel
theorem dX5_setList_75 : decode cX5_setList 75 = .ok (.getfield 104, 3) := by decide +kernel
theorem dX5_setList_78 : decode cX5_setList 78 = .ok (.imul, 1) := by decide +kernel
theorem dX5_setList_79 : decode cX5_setList 79 = .ok (.iload_n 3, 1) := by decide +kernel
theorem dX5_setList_80 : decode cX5_setList 80 = .ok (.iadd, 1) := by decide +kernel
theorem dX5_setList_81 : decode cX5_setList 81 = .ok (.aload_n 0, 1) := by decide +kernel
theorem dX5_setList_82 : decode cX5_setList 82 = .ok (.getfield 22, 3) := by decide +kernel
theorem dX5_setList_85 : decode cX5_setList 85 = .ok (.iload_n 3, 1) := by decide +kernel
theorem dX5_setList_86 : decode cX5_setList 86 = .ok (.iaload, 1) := by decide +kernel
theorem dX5_setList_87 : decode cX5_setList 87 = .ok (.iastore, 1) := by decide +kernel
theorem dX5_setList_88 : decode cX5_setList 88 = .ok (.iinc 3 1, 3) := by decide +kernel
theorem dX5_setList_91 : decode cX5_setList 91 = .ok (.goto (-31), 3) := by decide +kernel
theorem dX5_setList_94 : decode cX5_setList 94 = .ok (.aload_n 0, 1) := by decide +kernel
theorem dX5_setList_95 : decode cX5_setList 95 = .ok (.dup, 1) := by decide +kernel
theorem dX5_setList_96 : decode cX5_setList 96 = .ok (.getfield 104, 3) := by decide +kernel
theorem dX5_setList_99 : decode cX5_setList 99 = .ok (.iconst 1, 1) := by decide +kernel
theorem dX5_setList_100 : decode cX5_setList 100 = .ok (.iadd, 1) := by decide +kernel
theorem dX5_setList_101 : decode cX5_setList 101 = .ok (.putfield 104, 3) := by decide +kernel
theorem dX5_setList_104 : decode cX5_setList 104 = .ok (.aload_n 0, 1) := by decide +kernel
theorem dX5_setList_105 : decode cX5_setList 105 = .ok (.invokevirtual 107, 3) := by decide +kernel
theorem dX5_setList_108 : decode cX5_setList 108 = .ok (.istore_n 2, 1) := by decide +kernel
theorem dX5_setList_109 : decode cX5_setList 109 = .ok (.goto (-68), 3) := by decide +kernel
theorem dX5_setList_112 : decode cX5_setList 112 = .ok (.return_, 1) := by decide +kernel
theorem dX5_later_0 : decode cX5_later 0 = .ok (.aload_n 0, 1) := by decide +kernel
theorem dX5_later_1 : decode cX5_later 1 = .ok (.getfield 94, 3) := by decide +kernel
theorem dX5_later_4 : decode cX5_later 4 = .ok (.iconst 1, 1) := by decide +kernel
theorem dX5_later_5 : decode cX5_later 5 = .ok (.isub, 1) := by decide +kernel
theorem dX5_later_6 : decode cX5_later 6 = .ok (.istore_n 1, 1) := by decide +kernel
theorem dX5_later_7 : decode cX5_later 7 = .ok (.iconst 0, 1) := by decide +kernel
theorem dX5_later_8 : decode cX5_later 8 = .ok (.istore_n 2, 1) := by decide +kernel
theorem dX5_later_9 : decode cX5_later 9 = .ok (.iload_n 1, 1) := by decide +kernel
theorem dX5_later_10 : decode cX5_later 10 = .ok (.ifCond .lt 22, 3) := by decide +kernel
theorem dX5_later_13 : decode cX5_later 13 = .ok (.aload_n 0, 1) := by decide +kernel
theorem dX5_later_14 : decode cX5_later 14 = .ok (.getfield 22, 3) := by decide +kernel
theorem dX5_later_17 : decode cX5_later 17 = .ok (.iload_n 1, 1) := by decide +kernel
theorem dX5_later_18 : decode cX5_later 18 = .ok (.iaload, 1) := by decide +kernel
theorem dX5_later_19 : decode cX5_later 19 = .ok (.iconst 1, 1) := by decide +kernel
theorem dX5_later_20 : decode cX5_later 20 = .ok (.if_icmp .ne 12, 3) := by decide +kernel
theorem dX5_later_23 : decode cX5_later 23 = .ok (.iinc 2 1, 3) := by decide +kernel
theorem dX5_later_26 : decode cX5_later 26 = .ok (.iinc 1 (-1), 3) := by decide +kernel
theorem dX5_later_29 : decode cX5_later 29 = .ok (.goto (-20), 3) := by decide +kernel
theorem dX5_later_32 : decode cX5_later 32 = .ok (.iload_n 1, 1) := by decide +kernel
theorem dX5_later_33 : decode cX5_later 33 = .ok (.ifCond .ge 5, 3) := by decide +kernel
theorem dX5_later_36 : decode cX5_later 36 = .ok (.iconst 0, 1) := by decide +kernel
theorem dX5_later_37 : decode cX5_later 37 = .ok (.ireturn, 1) := by decide +kernel
theorem dX5_later_38 : decode cX5_later 38 = .ok (.aload_n 0, 1) := by decide +kernel
theorem dX5_later_39 : decode cX5_later 39 = .ok (.getfield 22, 3) := by decide +kernel
theorem dX5_later_42 : decode cX5_later 42 = .ok (.iload_n 1, 1) := by decide +kernel
theorem dX5_later_43 : decode cX5_later 43 = .ok (.dup2, 1) := by decide +kernel
theorem dX5_later_44 : decode cX5_later 44 = .ok (.iaload, 1) := by decide +kernel
theorem dX5_later_45 : decode cX5_later 45 = .ok (.iconst 1, 1) := by decide +kernel
theorem dX5_later_46 : decode cX5_later 46 = .ok (.isub, 1) := by decide +kernel
theorem dX5_later_47 : decode cX5_later 47 = .ok (.iastore, 1) := by decide +kernel
theorem dX5_later_48 : decode cX5_later 48 = .ok (.iinc 2 1, 3) := by decide +kernel
theorem dX5_later_51 : decode cX5_later 51 = .ok (.aload_n 0, 1) := by decide +kernel
theorem dX5_later_52 : decode cX5_later 52 = .ok (.iload_n 1, 1) := by decide +kernel
theorem dX5_later_53 : decode cX5_later 53 = .ok (.iconst 1, 1) := by decide +kernel
theorem dX5_later_54 : decode cX5_later 54 = .ok (.iadd, 1) := by decide +kernel
theorem dX5_later_55 : decode cX5_later 55 = .ok (.putfield 94, 3) := by decide +kernel
theorem dX5_later_58 : decode cX5_later 58 = .ok (.iload_n 2, 1) := by decide +kernel
theorem dX5_later_59 : decode cX5_later 59 = .ok (.ifCond .le 57, 3) := by decide +kernel
theorem dX5_later_62 : decode cX5_later 62 = .ok (.aload_n 0, 1) := by decide +kernel
theorem dX5_later_63 : decode cX5_later 63 = .ok (.getfield 22, 3) := by decide +kernel
theorem dX5_later_66 : decode cX5_later 66 = .ok (.aload_n 0, 1) := by decide +kernel
theorem dX5_later_67 : decode cX5_later 67 = .ok (.getfield 94, 3) := by decide +kernel
theorem dX5_later_70 : decode cX5_later 70 = .ok (.iload_n 2, 1) := by decide +kernel
theorem dX5_later_71 : decode cX5_later 71 = .ok (.aload_n 0, 1) := by decide +kernel
theorem dX5_later_72 : decode cX5_later 72 = .ok (.getfield 22, 3) := by decide +kernel
theorem dX5_later_75 : decode cX5_later 75 = .ok (.iload_n 1, 1) := by decide +kernel
theorem dX5_later_76 : decode cX5_later 76 = .ok (.iaload, 1) := by decide +kernel
theorem dX5_later_77 : decode cX5_later 77 = .ok (.if_icmp .ge 7, 3) := by decide +kernel
theorem dX5_later_80 : decode cX5_later 80 = .ok (.iload_n 2, 1) := by decide +kernel
theorem dX5_later_81 : decode cX5_later 81 = .ok (.goto 9, 3) := by decide +kernel
theorem dX5_later_84 : decode cX5_later 84 = .ok (.aload_n 0, 1) := by decide +kernel
theorem dX5_later_85 : decode cX5_later 85 = .ok (.getfield 22, 3) := by decide +kernel
theorem dX5_later_88 : decode cX5_later 88 = .ok (.iload_n 1, 1) := by decide +kernel
theorem dX5_later_89 : decode cX5_later 89 = .ok (.iaload, 1) := by decide +kernel
theorem dX5_later_90 : decode cX5_later 90 = .ok (.iastore, 1) := by decide +kernel
theorem dX5_later_91 : decode cX5_later 91 = .ok (.iload_n 2, 1) := by decide +kernel
theorem dX5_later_92 : decode cX5_later 92 = .ok (.aload_n 0, 1) := by decide +kernel
theorem dX5_later_93 : decode cX5_later 93 = .ok (.getfield 22, 3) := by decide +kernel
theorem dX5_later_96 : decode cX5_later 96 = .ok (.aload_n 0, 1) := by decide +kernel
theorem dX5_later_97 : decode cX5_later 97 = .ok (.getfield 94, 3) := by decide +kernel
theorem dX5_later_100 : decode cX5_later 100 = .ok (.iaload, 1) := by decide +kernel
theorem dX5_later_101 : decode cX5_later 101 = .ok (.isub, 1) := by decide +kernel
theorem dX5_later_102 : decode cX5_later 102 = .ok (.istore_n 2, 1) := by decide +kernel
theorem dX5_later_103 : decode cX5_later 103 = .ok (.aload_n 0, 1) := by decide +kernel
theorem dX5_later_104 : decode cX5_later 104 = .ok (.dup, 1) := by decide +kernel
theorem dX5_later_105 : decode cX5_later 105 = .ok (.getfield 94, 3) := by decide +kernel
theorem dX5_later_108 : decode cX5_later 108 = .ok (.iconst 1, 1) := by decide +kernel
theorem dX5_later_109 : decode cX5_later 109 = .ok (.iadd, 1) := by decide +kernel
theorem dX5_later_110 : decode cX5_later 110 = .ok (.putfield 94, 3) := by decide +kernel
theorem dX5_later_113 : decode cX5_later 113 = .ok (.goto (-55), 3) := by decide +kernel
theorem dX5_later_116 : decode cX5_later 116 = .ok (.iconst 1, 1) := by decide +kernel
theorem dX5_later_117 : decode cX5_later 117 = .ok (.ireturn, 1) := by decide +kernel
theorem dX5_against_0 : decode cX5_against 0 = .ok (.iconst 0, 1) := by decide +kernel
theorem dX5_against_1 : decode cX5_against 1 = .ok (.istore_n 2, 1) := by decide +kernel
theorem dX5_against_2 : decode cX5_against 2 = .ok (.iload_n 2, 1) := by decide +kernel
theorem dX5_against_3 : decode cX5_against 3 = .ok (.aload_n 0, 1) := by decide +kernel
theorem dX5_against_4 : decode cX5_against 4 = .ok (.getfield 94, 3) := by decide +kernel
theorem dX5_against_7 : decode cX5_against 7 = .ok (.if_icmp .ge 58, 3) := by decide +kernel
theorem dX5_against_10 : decode cX5_against 10 = .ok (.iload_n 2, 1) := by decide +kernel
theorem dX5_against_11 : decode cX5_against 11 = .ok (.aload_n 0, 1) := by decide +kernel
theorem dX5_against_12 : decode cX5_against 12 = .ok (.getfield 32, 3) := by decide +kernel
theorem dX5_against_15 : decode cX5_against 15 = .ok (.iload_n 1, 1) := by decide +kernel
theorem dX5_against_16 : decode cX5_against 16 = .ok (.iaload, 1) := by decide +kernel
theorem dX5_against_17 : decode cX5_against 17 = .ok (.if_icmp .ge 48, 3) := by decide +kernel
theorem dX5_against_20 : decode cX5_against 20 = .ok (.aload_n 0, 1) := by decide +kernel
theorem dX5_against_21 : decode cX5_against 21 = .ok (.getfield 22, 3) := by decide +kernel
theorem dX5_against_24 : decode cX5_against 24 = .ok (.iload_n 2, 1) := by decide +kernel
theorem dX5_against_25 : decode cX5_against 25 = .ok (.iaload, 1) := by decide +kernel
theorem dX5_against_26 : decode cX5_against 26 = .ok (.aload_n 0, 1) := by decide +kernel
theorem dX5_against_27 : decode cX5_against 27 = .ok (.getfield 29, 3) := by decide +kernel
theorem dX5_against_30 : decode cX5_against 30 = .ok (.bipush 18, 2) := by decide +kernel
theorem dX5_against_32 : decode cX5_against 32 = .ok (.iload_n 1, 1) := by decide +kernel
theorem dX5_against_33 : decode cX5_against 33 = .ok (.imul, 1) := by decide +kernel
theorem dX5_against_34 : decode cX5_against 34 = .ok (.iload_n 2, 1) := by decide +kernel
theorem dX5_against_35 : decode cX5_against 35 = .ok (.iadd, 1) := by decide +kernel
theorem dX5_against_36 : decode cX5_against 36 = .ok (.iaload, 1) := by decide +kernel
theorem dX5_against_37 : decode cX5_against 37 = .ok (.if_icmp .eq 22, 3) := by decide +kernel
theorem dX5_against_40 : decode cX5_against 40 = .ok (.aload_n 0, 1) := by decide +kernel
theorem dX5_against_41 : decode cX5_against 41 = .ok (.getfield 29, 3) := by decide +kernel
theorem dX5_against_44 : decode cX5_against 44 = .ok (.bipush 18, 2) := by decide +kernel
theorem dX5_against_46 : decode cX5_against 46 = .ok (.iload_n 1, 1) := by decide +kernel
theorem dX5_against_47 : decode cX5_against 47 = .ok (.imul, 1) := by decide +kernel
theorem dX5_against_48 : decode cX5_against 48 = .ok (.iload_n 2, 1) := by decide +kernel
theorem dX5_against_49 : decode cX5_against 49 = .ok (.iadd, 1) := by decide +kernel
theorem dX5_against_50 : decode cX5_against 50 = .ok (.iaload, 1) := by decide +kernel
theorem dX5_against_51 : decode cX5_against 51 = .ok (.aload_n 0, 1) := by decide +kernel
theorem dX5_against_52 : decode cX5_against 52 = .ok (.getfield 22, 3) := by decide +kernel
theorem dX5_against_55 : decode cX5_against 55 = .ok (.iload_n 2, 1) := by decide +kernel
theorem dX5_against_56 : decode cX5_against 56 = .ok (.iaload, 1) := by decide +kernel
theorem dX5_against_57 : decode cX5_against 57 = .ok (.isub, 1) := by decide +kernel
theorem dX5_against_58 : decode cX5_against 58 = .ok (.ireturn, 1) := by decide +kernel
theorem dX5_against_59 : decode cX5_against 59 = .ok (.iinc 2 1, 3) := by decide +kernel
theorem dX5_against_62 : decode cX5_against 62 = .ok (.goto (-60), 3) := by decide +kernel
theorem dX5_against_65 : decode cX5_against 65 = .ok (.iconst 0, 1) := by decide +kernel
theorem dX5_against_66 : decode cX5_against 66 = .ok (.ireturn, 1) := by decide +kernel
theorem dX5_rankRow_0 : decode cX5_rankRow 0 = .ok (.iconst 0, 1) := by decide +kernel
theorem dX5_rankRow_1 : decode cX5_rankRow 1 = .ok (.istore_n 1, 1) := by decide +kernel
theorem dX5_rankRow_2 : decode cX5_rankRow 2 = .ok (.aload_n 0, 1) := by decide +kernel
theorem dX5_rankRow_3 : decode cX5_rankRow 3 = .ok (.getfield 104, 3) := by decide +kernel
theorem dX5_rankRow_6 : decode cX5_rankRow 6 = .ok (.iconst 1, 1) := by decide +kernel
theorem dX5_rankRow_7 : decode cX5_rankRow 7 = .ok (.isub, 1) := by decide +kernel
theorem dX5_rankRow_8 : decode cX5_rankRow 8 = .ok (.istore_n 2, 1) := by decide +kernel
theorem dX5_rankRow_9 : decode cX5_rankRow 9 = .ok (.iload_n 1, 1) := by decide +kernel
theorem dX5_rankRow_10 : decode cX5_rankRow 10 = .ok (.iload_n 2, 1) := by decide +kernel
theorem dX5_rankRow_11 : decode cX5_rankRow 11 = .ok (.if_icmp .ge 52, 3) := by decide +kernel
theorem dX5_rankRow_14 : decode cX5_rankRow 14 = .ok (.iload_n 1, 1) := by decide +kernel
theorem dX5_rankRow_15 : decode cX5_rankRow 15 = .ok (.iload_n 2, 1) := by decide +kernel
theorem dX5_rankRow_16 : decode cX5_rankRow 16 = .ok (.iadd, 1) := by decide +kernel
theorem dX5_rankRow_17 : decode cX5_rankRow 17 = .ok (.iconst 2, 1) := by decide +kernel
theorem dX5_rankRow_18 : decode cX5_rankRow 18 = .ok (.idiv, 1) := by decide +kernel
theorem dX5_rankRow_19 : decode cX5_rankRow 19 = .ok (.istore_n 3, 1) := by decide +kernel
theorem dX5_rankRow_20 : decode cX5_rankRow 20 = .ok (.aload_n 0, 1) := by decide +kernel
theorem dX5_rankRow_21 : decode cX5_rankRow 21 = .ok (.iload_n 3, 1) := by decide +kernel
theorem dX5_rankRow_22 : decode cX5_rankRow 22 = .ok (.invokevirtual 111, 3) := by decide +kernel
theorem dX5_rankRow_25 : decode cX5_rankRow 25 = .ok (.istore 4, 2) := by decide +kernel
theorem dX5_rankRow_27 : decode cX5_rankRow 27 = .ok (.iload 4, 2) := by decide +kernel
theorem dX5_rankRow_29 : decode cX5_rankRow 29 = .ok (.ifCond .ne 5, 3) := by decide +kernel
theorem dX5_rankRow_32 : decode cX5_rankRow 32 = .ok (.iload_n 3, 1) := by decide +kernel
theorem dX5_rankRow_33 : decode cX5_rankRow 33 = .ok (.ireturn, 1) := by decide +kernel
theorem dX5_rankRow_34 : decode cX5_rankRow 34 = .ok (.iload 4, 2) := by decide +kernel
theorem dX5_rankRow_36 : decode cX5_rankRow 36 = .ok (.ifCond .ge 7, 3) := by decide +kernel
theorem dX5_rankRow_39 : decode cX5_rankRow 39 = .ok (.iload_n 1, 1) := by decide +kernel
theorem dX5_rankRow_40 : decode cX5_rankRow 40 = .ok (.goto 6, 3) := by decide +kernel
theorem dX5_rankRow_43 : decode cX5_rankRow 43 = .ok (.iload_n 3, 1) := by decide +kernel
theorem dX5_rankRow_44 : decode cX5_rankRow 44 = .ok (.iconst 1, 1) := by decide +kernel
theorem dX5_rankRow_45 : decode cX5_rankRow 45 = .ok (.iadd, 1) := by decide +kernel
theorem dX5_rankRow_46 : decode cX5_rankRow 46 = .ok (.istore_n 1, 1) := by decide +kernel
theorem dX5_rankRow_47 : decode cX5_rankRow 47 = .ok (.iload 4, 2) := by decide +kernel
theorem dX5_rankRow_49 : decode cX5_rankRow 49 = .ok (.ifCond .ge 9, 3) := by decide +kernel
theorem dX5_rankRow_52 : decode cX5_rankRow 52 = .ok (.iload_n 3, 1) := by decide +kernel
theorem dX5_rankRow_53 : decode cX5_rankRow 53 = .ok (.iconst 1, 1) := by decide +kernel
theorem dX5_rankRow_54 : decode cX5_rankRow 54 = .ok (.isub, 1) := by decide +kernel
theorem dX5_rankRow_55 : decode cX5_rankRow 55 = .ok (.goto 4, 3) := by decide +kernel
theorem dX5_rankRow_58 : decode cX5_rankRow 58 = .ok (.iload_n 2, 1) := by decide +kernel
theorem dX5_rankRow_59 : decode cX5_rankRow 59 = .ok (.istore_n 2, 1) := by decide +kernel
theorem dX5_rankRow_60 : decode cX5_rankRow 60 = .ok (.goto (-51), 3) := by decide +kernel
theorem dX5_rankRow_63 : decode cX5_rankRow 63 = .ok (.iload_n 1, 1) := by decide +kernel
theorem dX5_rankRow_64 : decode cX5_rankRow 64 = .ok (.ireturn, 1) := by decide +kernel
theorem dX5_loadListed_0 : decode cX5_loadListed 0 = .ok (.aload_n 0, 1) := by decide +kernel
theorem dX5_loadListed_1 : decode cX5_loadListed 1 = .ok (.aload_n 0, 1) := by decide +kernel
theorem dX5_loadListed_2 : decode cX5_loadListed 2 = .ok (.getfield 32, 3) := by decide +kernel
theorem dX5_loadListed_5 : decode cX5_loadListed 5 = .ok (.iload_n 1, 1) := by decide +kernel
theorem dX5_loadListed_6 : decode cX5_loadListed 6 = .ok (.iaload, 1) := by decide +kernel
theorem dX5_loadListed_7 : decode cX5_loadListed 7 = .ok (.putfield 94, 3) := by decide +kernel
theorem dX5_loadListed_10 : decode cX5_loadListed 10 = .ok (.iconst 0, 1) := by decide +kernel
theorem dX5_loadListed_11 : decode cX5_loadListed 11 = .ok (.istore_n 2, 1) := by decide +kernel
theorem dX5_loadListed_12 : decode cX5_loadListed 12 = .ok (.iload_n 2, 1) := by decide +kernel
theorem dX5_loadListed_13 : decode cX5_loadListed 13 = .ok (.aload_n 0, 1) := by decide +kernel
theorem dX5_loadListed_14 : decode cX5_loadListed 14 = .ok (.getfield 94, 3) := by decide +kernel
theorem dX5_loadListed_17 : decode cX5_loadListed 17 = .ok (.if_icmp .ge 26, 3) := by decide +kernel
theorem dX5_loadListed_20 : decode cX5_loadListed 20 = .ok (.aload_n 0, 1) := by decide +kernel
theorem dX5_loadListed_21 : decode cX5_loadListed 21 = .ok (.getfield 22, 3) := by decide +kernel
theorem dX5_loadListed_24 : decode cX5_loadListed 24 = .ok (.iload_n 2, 1) := by decide +kernel
theorem dX5_loadListed_25 : decode cX5_loadListed 25 = .ok (.aload_n 0, 1) := by decide +kernel
theorem dX5_loadListed_26 : decode cX5_loadListed 26 = .ok (.getfield 29, 3) := by decide +kernel
theorem dX5_loadListed_29 : decode cX5_loadListed 29 = .ok (.bipush 18, 2) := by decide +kernel
theorem dX5_loadListed_31 : decode cX5_loadListed 31 = .ok (.iload_n 1, 1) := by decide +kernel
theorem dX5_loadListed_32 : decode cX5_loadListed 32 = .ok (.imul, 1) := by decide +kernel
theorem dX5_loadListed_33 : decode cX5_loadListed 33 = .ok (.iload_n 2, 1) := by decide +kernel
theorem dX5_loadListed_34 : decode cX5_loadListed 34 = .ok (.iadd, 1) := by decide +kernel
theorem dX5_loadListed_35 : decode cX5_loadListed 35 = .ok (.iaload, 1) := by decide +kernel
theorem dX5_loadListed_36 : decode cX5_loadListed 36 = .ok (.iastore, 1) := by decide +kernel
theorem dX5_loadListed_37 : decode cX5_loadListed 37 = .ok (.iinc 2 1, 3) := by decide +kernel
theorem dX5_loadListed_40 : decode cX5_loadListed 40 = .ok (.goto (-28), 3) := by decide +kernel
theorem dX5_loadListed_43 : decode cX5_loadListed 43 = .ok (.return_, 1) := by decide +kernel
theorem dX5_rankOf_0 : decode cX5_rankOf 0 = .ok (.aload_n 0, 1) := by decide +kernel
theorem dX5_rankOf_1 : decode cX5_rankOf 1 = .ok (.aload_n 0, 1) := by decide +kernel
theorem dX5_rankOf_2 : decode cX5_rankOf 2 = .ok (.iload_n 1, 1) := by decide +kernel
theorem dX5_rankOf_3 : decode cX5_rankOf 3 = .ok (.invokevirtual 84, 3) := by decide +kernel
theorem dX5_rankOf_6 : decode cX5_rankOf 6 = .ok (.invokevirtual 114, 3) := by decide +kernel
theorem dX5_rankOf_9 : decode cX5_rankOf 9 = .ok (.aload_n 0, 1) := by decide +kernel
theorem dX5_rankOf_10 : decode cX5_rankOf 10 = .ok (.iload_n 1, 1) := by decide +kernel
theorem dX5_rankOf_11 : decode cX5_rankOf 11 = .ok (.invokevirtual 118, 3) := by decide +kernel
theorem dX5_rankOf_14 : decode cX5_rankOf 14 = .ok (.aload_n 0, 1) := by decide +kernel
theorem dX5_rankOf_15 : decode cX5_rankOf 15 = .ok (.invokevirtual 121, 3) := by decide +kernel
theorem dX5_rankOf_18 : decode cX5_rankOf 18 = .ok (.ireturn, 1) := by decide +kernel
theorem dX5_many_0 : decode cX5_many 0 = .ok (.iload_n 1, 1) := by decide +kernel
theorem dX5_many_1 : decode cX5_many 1 = .ok (.iconst 0, 1) := by decide +kernel
theorem dX5_many_2 : decode cX5_many 2 = .ok (.bipush 18, 2) := by decide +kernel
theorem dX5_many_4 : decode cX5_many 4 = .ok (.invokestatic 69, 3) := by decide +kernel
theorem dX5_many_7 : decode cX5_many 7 = .ok (.ifCond .ne 5, 3) := by decide +kernel
theorem dX5_many_10 : decode cX5_many 10 = .ok (.iconst (-1), 1) := by decide +kernel
theorem dX5_many_11 : decode cX5_many 11 = .ok (.ireturn, 1) := by decide +kernel
theorem dX5_many_12 : decode cX5_many 12 = .ok (.aload_n 0, 1) := by decide +kernel
theorem dX5_many_13 : decode cX5_many 13 = .ok (.iload_n 1, 1) := by decide +kernel
theorem dX5_many_14 : decode cX5_many 14 = .ok (.invokevirtual 114, 3) := by decide +kernel
theorem dX5_many_17 : decode cX5_many 17 = .ok (.aload_n 0, 1) := by decide +kernel
theorem dX5_many_18 : decode cX5_many 18 = .ok (.getfield 104, 3) := by decide +kernel
theorem dX5_many_21 : decode cX5_many 21 = .ok (.ireturn, 1) := by decide +kernel
theorem dX5_rank_0 : decode cX5_rank 0 = .ok (.aload_n 0, 1) := by decide +kernel
theorem dX5_rank_1 : decode cX5_rank 1 = .ok (.iload_n 1, 1) := by decide +kernel
theorem dX5_rank_2 : decode cX5_rank 2 = .ok (.invokevirtual 81, 3) := by decide +kernel
theorem dX5_rank_5 : decode cX5_rank 5 = .ok (.istore_n 2, 1) := by decide +kernel
theorem dX5_rank_6 : decode cX5_rank 6 = .ok (.iload_n 2, 1) := by decide +kernel
theorem dX5_rank_7 : decode cX5_rank 7 = .ok (.ifCond .ge 7, 3) := by decide +kernel
theorem dX5_rank_10 : decode cX5_rank 10 = .ok (.iload_n 2, 1) := by decide +kernel
theorem dX5_rank_11 : decode cX5_rank 11 = .ok (.goto 8, 3) := by decide +kernel
theorem dX5_rank_14 : decode cX5_rank 14 = .ok (.aload_n 0, 1) := by decide +kernel
theorem dX5_rank_15 : decode cX5_rank 15 = .ok (.iload_n 1, 1) := by decide +kernel
theorem dX5_rank_16 : decode cX5_rank 16 = .ok (.invokevirtual 125, 3) := by decide +kernel
theorem dX5_rank_19 : decode cX5_rank 19 = .ok (.ireturn, 1) := by decide +kernel
theorem dX5_list_0 : decode cX5_list 0 = .ok (.iload_n 1, 1) := by decide +kernel
theorem dX5_list_1 : decode cX5_list 1 = .ok (.invokestatic 73, 3) := by decide +kernel
theorem dX5_list_4 : decode cX5_list 4 = .ok (.ifCond .eq 13, 3) := by decide +kernel
theorem dX5_list_7 : decode cX5_list 7 = .ok (.iload_n 2, 1) := by decide +kernel
theorem dX5_list_8 : decode cX5_list 8 = .ok (.iconst 0, 1) := by decide +kernel
theorem dX5_list_9 : decode cX5_list 9 = .ok (.bipush 18, 2) := by decide +kernel
theorem dX5_list_11 : decode cX5_list 11 = .ok (.invokestatic 69, 3) := by decide +kernel
theorem dX5_list_14 : decode cX5_list 14 = .ok (.ifCond .ne 5, 3) := by decide +kernel
theorem dX5_list_17 : decode cX5_list 17 = .ok (.iconst (-1), 1) := by decide +kernel
theorem dX5_list_18 : decode cX5_list 18 = .ok (.ireturn, 1) := by decide +kernel
theorem dX5_list_19 : decode cX5_list 19 = .ok (.aload_n 0, 1) := by decide +kernel
theorem dX5_list_20 : decode cX5_list 20 = .ok (.iload_n 2, 1) := by decide +kernel
theorem dX5_list_21 : decode cX5_list 21 = .ok (.invokevirtual 114, 3) := by decide +kernel
theorem dX5_list_24 : decode cX5_list 24 = .ok (.iload_n 3, 1) := by decide +kernel
theorem dX5_list_25 : decode cX5_list 25 = .ok (.iconst 0, 1) := by decide +kernel
theorem dX5_list_26 : decode cX5_list 26 = .ok (.aload_n 0, 1) := by decide +kernel
theorem dX5_list_27 : decode cX5_list 27 = .ok (.getfield 104, 3) := by decide +kernel
theorem dX5_list_30 : decode cX5_list 30 = .ok (.iconst 1, 1) := by decide +kernel
theorem dX5_list_31 : decode cX5_list 31 = .ok (.isub, 1) := by decide +kernel
theorem dX5_list_32 : decode cX5_list 32 = .ok (.invokestatic 69, 3) := by decide +kernel
theorem dX5_list_35 : decode cX5_list 35 = .ok (.ifCond .ne 6, 3) := by decide +kernel
theorem dX5_list_38 : decode cX5_list 38 = .ok (.bipush (-9), 2) := by decide +kernel
theorem dX5_list_40 : decode cX5_list 40 = .ok (.ireturn, 1) := by decide +kernel
theorem dX5_list_41 : decode cX5_list 41 = .ok (.aload_n 0, 1) := by decide +kernel
theorem dX5_list_42 : decode cX5_list 42 = .ok (.iload_n 3, 1) := by decide +kernel
theorem dX5_list_43 : decode cX5_list 43 = .ok (.invokevirtual 128, 3) := by decide +kernel
theorem dX5_list_46 : decode cX5_list 46 = .ok (.aload_n 0, 1) := by decide +kernel
theorem dX5_list_47 : decode cX5_list 47 = .ok (.iload_n 1, 1) := by decide +kernel
theorem dX5_list_48 : decode cX5_list 48 = .ok (.invokevirtual 131, 3) := by decide +kernel
theorem dX5_list_51 : decode cX5_list 51 = .ok (.iconst 1, 1) := by decide +kernel
theorem dX5_list_52 : decode cX5_list 52 = .ok (.ireturn, 1) := by decide +kernel
theorem dX5_turn_0 : decode cX5_turn 0 = .ok (.aload_n 0, 1) := by decide +kernel
theorem dX5_turn_1 : decode cX5_turn 1 = .ok (.iload_n 1, 1) := by decide +kernel
theorem dX5_turn_2 : decode cX5_turn 2 = .ok (.invokevirtual 81, 3) := by decide +kernel
theorem dX5_turn_5 : decode cX5_turn 5 = .ok (.istore_n 2, 1) := by decide +kernel
theorem dX5_turn_6 : decode cX5_turn 6 = .ok (.iload_n 2, 1) := by decide +kernel
theorem dX5_turn_7 : decode cX5_turn 7 = .ok (.ifCond .ge 5, 3) := by decide +kernel
theorem dX5_turn_10 : decode cX5_turn 10 = .ok (.iload_n 2, 1) := by decide +kernel
theorem dX5_turn_11 : decode cX5_turn 11 = .ok (.ireturn, 1) := by decide +kernel
theorem dX5_turn_12 : decode cX5_turn 12 = .ok (.aload_n 0, 1) := by decide +kernel
theorem dX5_turn_13 : decode cX5_turn 13 = .ok (.iload_n 1, 1) := by decide +kernel
theorem dX5_turn_14 : decode cX5_turn 14 = .ok (.invokevirtual 118, 3) := by decide +kernel
theorem dX5_turn_17 : decode cX5_turn 17 = .ok (.aload_n 0, 1) := by decide +kernel
theorem dX5_turn_18 : decode cX5_turn 18 = .ok (.getfield 94, 3) := by decide +kernel
theorem dX5_turn_21 : decode cX5_turn 21 = .ok (.ifCond .ne 7, 3) := by decide +kernel
theorem dX5_turn_24 : decode cX5_turn 24 = .ok (.iconst 0, 1) := by decide +kernel
theorem dX5_turn_25 : decode cX5_turn 25 = .ok (.goto 9, 3) := by decide +kernel
theorem dX5_turn_28 : decode cX5_turn 28 = .ok (.aload_n 0, 1) := by decide +kernel
theorem dX5_turn_29 : decode cX5_turn 29 = .ok (.getfield 22, 3) := by decide +kernel
theorem dX5_turn_32 : decode cX5_turn 32 = .ok (.iconst 0, 1) := by decide +kernel
theorem dX5_turn_33 : decode cX5_turn 33 = .ok (.iaload, 1) := by decide +kernel
theorem dX5_turn_34 : decode cX5_turn 34 = .ok (.istore_n 3, 1) := by decide +kernel
theorem dX5_turn_35 : decode cX5_turn 35 = .ok (.iconst 0, 1) := by decide +kernel
theorem dX5_turn_36 : decode cX5_turn 36 = .ok (.istore 4, 2) := by decide +kernel
theorem dX5_turn_38 : decode cX5_turn 38 = .ok (.iload 4, 2) := by decide +kernel
theorem dX5_turn_40 : decode cX5_turn 40 = .ok (.iload_n 3, 1) := by decide +kernel
theorem dX5_turn_41 : decode cX5_turn 41 = .ok (.if_icmp .ge 62, 3) := by decide +kernel
theorem dX5_turn_44 : decode cX5_turn 44 = .ok (.aload_n 0, 1) := by decide +kernel
theorem dX5_turn_45 : decode cX5_turn 45 = .ok (.getfield 19, 3) := by decide +kernel
theorem dX5_turn_48 : decode cX5_turn 48 = .ok (.iload 4, 2) := by decide +kernel
theorem dX5_turn_50 : decode cX5_turn 50 = .ok (.iconst 0, 1) := by decide +kernel
theorem dX5_turn_51 : decode cX5_turn 51 = .ok (.iastore, 1) := by decide +kernel
theorem dX5_turn_52 : decode cX5_turn 52 = .ok (.iconst 0, 1) := by decide +kernel
theorem dX5_turn_53 : decode cX5_turn 53 = .ok (.istore 5, 2) := by decide +kernel
theorem dX5_turn_55 : decode cX5_turn 55 = .ok (.iload 5, 2) := by decide +kernel
theorem dX5_turn_57 : decode cX5_turn 57 = .ok (.aload_n 0, 1) := by decide +kernel
theorem dX5_turn_58 : decode cX5_turn 58 = .ok (.getfield 94, 3) := by decide +kernel
theorem dX5_turn_61 : decode cX5_turn 61 = .ok (.if_icmp .ge 36, 3) := by decide +kernel
theorem dX5_turn_64 : decode cX5_turn 64 = .ok (.aload_n 0, 1) := by decide +kernel
theorem dX5_turn_65 : decode cX5_turn 65 = .ok (.getfield 19, 3) := by decide +kernel
theorem dX5_turn_68 : decode cX5_turn 68 = .ok (.iload 4, 2) := by decide +kernel
theorem dX5_turn_70 : decode cX5_turn 70 = .ok (.dup2, 1) := by decide +kernel
theorem dX5_turn_71 : decode cX5_turn 71 = .ok (.iaload, 1) := by decide +kernel
theorem dX5_turn_72 : decode cX5_turn 72 = .ok (.aload_n 0, 1) := by decide +kernel
theorem dX5_turn_73 : decode cX5_turn 73 = .ok (.getfield 22, 3) := by decide +kernel
theorem dX5_turn_76 : decode cX5_turn 76 = .ok (.iload 5, 2) := by decide +kernel
theorem dX5_turn_78 : decode cX5_turn 78 = .ok (.iaload, 1) := by decide +kernel
theorem dX5_turn_79 : decode cX5_turn 79 = .ok (.iload 4, 2) := by decide +kernel
theorem dX5_turn_81 : decode cX5_turn 81 = .ok (.if_icmp .le 7, 3) := by decide +kernel
theorem dX5_turn_84 : decode cX5_turn 84 = .ok (.iconst 1, 1) := by decide +kernel
theorem dX5_turn_85 : decode cX5_turn 85 = .ok (.goto 4, 3) := by decide +kernel
theorem dX5_turn_88 : decode cX5_turn 88 = .ok (.iconst 0, 1) := by decide +kernel
theorem dX5_turn_89 : decode cX5_turn 89 = .ok (.iadd, 1) := by decide +kernel
theorem dX5_turn_90 : decode cX5_turn 90 = .ok (.iastore, 1) := by decide +kernel
theorem dX5_turn_91 : decode cX5_turn 91 = .ok (.iinc 5 1, 3) := by decide +kernel
theorem dX5_turn_94 : decode cX5_turn 94 = .ok (.goto (-39), 3) := by decide +kernel
theorem dX5_turn_97 : decode cX5_turn 97 = .ok (.iinc 4 1, 3) := by decide +kernel
theorem dX5_turn_100 : decode cX5_turn 100 = .ok (.goto (-62), 3) := by decide +kernel
theorem dX5_turn_103 : decode cX5_turn 103 = .ok (.aload_n 0, 1) := by decide +kernel
theorem dX5_turn_104 : decode cX5_turn 104 = .ok (.iload_n 3, 1) := by decide +kernel
theorem dX5_turn_105 : decode cX5_turn 105 = .ok (.putfield 94, 3) := by decide +kernel
theorem dX5_turn_108 : decode cX5_turn 108 = .ok (.iconst 0, 1) := by decide +kernel
theorem dX5_turn_109 : decode cX5_turn 109 = .ok (.istore 4, 2) := by decide +kernel
theorem dX5_turn_111 : decode cX5_turn 111 = .ok (.iload 4, 2) := by decide +kernel
theorem dX5_turn_113 : decode cX5_turn 113 = .ok (.iload_n 3, 1) := by decide +kernel
theorem dX5_turn_114 : decode cX5_turn 114 = .ok (.if_icmp .ge 23, 3) := by decide +kernel
theorem dX5_turn_117 : decode cX5_turn 117 = .ok (.aload_n 0, 1) := by decide +kernel
theorem dX5_turn_118 : decode cX5_turn 118 = .ok (.getfield 22, 3) := by decide +kernel
theorem dX5_turn_121 : decode cX5_turn 121 = .ok (.iload 4, 2) := by decide +kernel
theorem dX5_turn_123 : decode cX5_turn 123 = .ok (.aload_n 0, 1) := by decide +kernel
theorem dX5_turn_124 : decode cX5_turn 124 = .ok (.getfield 19, 3) := by decide +kernel
theorem dX5_turn_127 : decode cX5_turn 127 = .ok (.iload 4, 2) := by decide +kernel
theorem dX5_turn_129 : decode cX5_turn 129 = .ok (.iaload, 1) := by decide +kernel
theorem dX5_turn_130 : decode cX5_turn 130 = .ok (.iastore, 1) := by decide +kernel
theorem dX5_turn_131 : decode cX5_turn 131 = .ok (.iinc 4 1, 3) := by decide +kernel
theorem dX5_turn_134 : decode cX5_turn 134 = .ok (.goto (-23), 3) := by decide +kernel
theorem dX5_turn_137 : decode cX5_turn 137 = .ok (.aload_n 0, 1) := by decide +kernel
theorem dX5_turn_138 : decode cX5_turn 138 = .ok (.iload_n 1, 1) := by decide +kernel
theorem dX5_turn_139 : decode cX5_turn 139 = .ok (.invokevirtual 131, 3) := by decide +kernel
theorem dX5_turn_142 : decode cX5_turn 142 = .ok (.aload_n 0, 1) := by decide +kernel
theorem dX5_turn_143 : decode cX5_turn 143 = .ok (.getfield 94, 3) := by decide +kernel
theorem dX5_turn_146 : decode cX5_turn 146 = .ok (.ireturn, 1) := by decide +kernel
theorem dX5_setSteps_0 : decode cX5_setSteps 0 = .ok (.aload_n 0, 1) := by decide +kernel
theorem dX5_setSteps_1 : decode cX5_setSteps 1 = .ok (.iload_n 1, 1) := by decide +kernel
theorem dX5_setSteps_2 : decode cX5_setSteps 2 = .ok (.invokevirtual 114, 3) := by decide +kernel
theorem dX5_setSteps_5 : decode cX5_setSteps 5 = .ok (.iconst 0, 1) := by decide +kernel
theorem dX5_setSteps_6 : decode cX5_setSteps 6 = .ok (.istore_n 2, 1) := by decide +kernel
theorem dX5_setSteps_7 : decode cX5_setSteps 7 = .ok (.iload_n 2, 1) := by decide +kernel
theorem dX5_setSteps_8 : decode cX5_setSteps 8 = .ok (.aload_n 0, 1) := by decide +kernel
theorem dX5_setSteps_9 : decode cX5_setSteps 9 = .ok (.getfield 104, 3) := by decide +kernel
theorem dX5_setSteps_12 : decode cX5_setSteps 12 = .ok (.if_icmp .ge 16, 3) := by decide +kernel
theorem dX5_setSteps_15 : decode cX5_setSteps 15 = .ok (.aload_n 0, 1) := by decide +kernel
theorem dX5_setSteps_16 : decode cX5_setSteps 16 = .ok (.getfield 38, 3) := by decide +kernel
theorem dX5_setSteps_19 : decode cX5_setSteps 19 = .ok (.iload_n 2, 1) := by decide +kernel
theorem dX5_setSteps_20 : decode cX5_setSteps 20 = .ok (.iconst 0, 1) := by decide +kernel
theorem dX5_setSteps_21 : decode cX5_setSteps 21 = .ok (.iastore, 1) := by decide +kernel
theorem dX5_setSteps_22 : decode cX5_setSteps 22 = .ok (.iinc 2 1, 3) := by decide +kernel
theorem dX5_setSteps_25 : decode cX5_setSteps 25 = .ok (.goto (-18), 3) := by decide +kernel
theorem dX5_setSteps_28 : decode cX5_setSteps 28 = .ok (.iconst 0, 1) := by decide +kernel
theorem dX5_setSteps_29 : decode cX5_setSteps 29 = .ok (.istore_n 2, 1) := by decide +kernel
theorem dX5_setSteps_30 : decode cX5_setSteps 30 = .ok (.iload_n 2, 1) := by decide +kernel
theorem dX5_setSteps_31 : decode cX5_setSteps 31 = .ok (.aload_n 0, 1) := by decide +kernel
theorem dX5_setSteps_32 : decode cX5_setSteps 32 = .ok (.getfield 104, 3) := by decide +kernel
theorem dX5_setSteps_35 : decode cX5_setSteps 35 = .ok (.if_icmp .ge 43, 3) := by decide +kernel
theorem dX5_setSteps_38 : decode cX5_setSteps 38 = .ok (.aload_n 0, 1) := by decide +kernel
theorem dX5_setSteps_39 : decode cX5_setSteps 39 = .ok (.iload_n 2, 1) := by decide +kernel
theorem dX5_setSteps_40 : decode cX5_setSteps 40 = .ok (.invokevirtual 128, 3) := by decide +kernel
theorem dX5_setSteps_43 : decode cX5_setSteps 43 = .ok (.aload_n 0, 1) := by decide +kernel
theorem dX5_setSteps_44 : decode cX5_setSteps 44 = .ok (.invokevirtual 134, 3) := by decide +kernel
theorem dX5_setSteps_47 : decode cX5_setSteps 47 = .ok (.aload_n 0, 1) := by decide +kernel
theorem dX5_setSteps_48 : decode cX5_setSteps 48 = .ok (.getfield 35, 3) := by decide +kernel
theorem dX5_setSteps_51 : decode cX5_setSteps 51 = .ok (.iload_n 2, 1) := by decide +kernel
theorem dX5_setSteps_52 : decode cX5_setSteps 52 = .ok (.aload_n 0, 1) := by decide +kernel
theorem dX5_setSteps_53 : decode cX5_setSteps 53 = .ok (.invokevirtual 121, 3) := by decide +kernel
theorem dX5_setSteps_56 : decode cX5_setSteps 56 = .ok (.iastore, 1) := by decide +kernel
theorem dX5_setSteps_57 : decode cX5_setSteps 57 = .ok (.aload_n 0, 1) := by decide +kernel
theorem dX5_setSteps_58 : decode cX5_setSteps 58 = .ok (.getfield 38, 3) := by decide +kernel
theorem dX5_setSteps_61 : decode cX5_setSteps 61 = .ok (.aload_n 0, 1) := by decide +kernel
theorem dX5_setSteps_62 : decode cX5_setSteps 62 = .ok (.getfield 35, 3) := by decide +kernel
theorem dX5_setSteps_65 : decode cX5_setSteps 65 = .ok (.iload_n 2, 1) := by decide +kernel
theorem dX5_setSteps_66 : decode cX5_setSteps 66 = .ok (.iaload, 1) := by decide +kernel
theorem dX5_setSteps_67 : decode cX5_setSteps 67 = .ok (.dup2, 1) := by decide +kernel
theorem dX5_setSteps_68 : decode cX5_setSteps 68 = .ok (.iaload, 1) := by decide +kernel
theorem dX5_setSteps_69 : decode cX5_setSteps 69 = .ok (.iconst 1, 1) := by decide +kernel
theorem dX5_setSteps_70 : decode cX5_setSteps 70 = .ok (.iadd, 1) := by decide +kernel
theorem dX5_setSteps_71 : decode cX5_setSteps 71 = .ok (.iastore, 1) := by decide +kernel
theorem dX5_setSteps_72 : decode cX5_setSteps 72 = .ok (.iinc 2 1, 3) := by decide +kernel
theorem dX5_setSteps_75 : decode cX5_setSteps 75 = .ok (.goto (-45), 3) := by decide +kernel
theorem dX5_setSteps_78 : decode cX5_setSteps 78 = .ok (.iconst 0, 1) := by decide +kernel
theorem dX5_setSteps_79 : decode cX5_setSteps 79 = .ok (.istore_n 2, 1) := by decide +kernel
theorem dX5_setSteps_80 : decode cX5_setSteps 80 = .ok (.iload_n 2, 1) := by decide +kernel
theorem dX5_setSteps_81 : decode cX5_setSteps 81 = .ok (.aload_n 0, 1) := by decide +kernel
theorem dX5_setSteps_82 : decode cX5_setSteps 82 = .ok (.getfield 104, 3) := by decide +kernel
theorem dX5_setSteps_85 : decode cX5_setSteps 85 = .ok (.if_icmp .ge 99, 3) := by decide +kernel
theorem dX5_setSteps_88 : decode cX5_setSteps 88 = .ok (.iload_n 2, 1) := by decide +kernel
theorem dX5_setSteps_89 : decode cX5_setSteps 89 = .ok (.istore_n 3, 1) := by decide +kernel
theorem dX5_setSteps_90 : decode cX5_setSteps 90 = .ok (.iconst 0, 1) := by decide +kernel
theorem dX5_setSteps_91 : decode cX5_setSteps 91 = .ok (.istore 4, 2) := by decide +kernel
theorem dX5_setSteps_93 : decode cX5_setSteps 93 = .ok (.iload 4, 2) := by decide +kernel
theorem dX5_setSteps_95 : decode cX5_setSteps 95 = .ok (.aload_n 0, 1) := by decide +kernel
theorem dX5_setSteps_96 : decode cX5_setSteps 96 = .ok (.getfield 104, 3) := by decide +kernel
theorem dX5_setSteps_99 : decode cX5_setSteps 99 = .ok (.if_icmp .ge 16, 3) := by decide +kernel
theorem dX5_setSteps_102 : decode cX5_setSteps 102 = .ok (.aload_n 0, 1) := by decide +kernel
theorem dX5_setSteps_103 : decode cX5_setSteps 103 = .ok (.getfield 35, 3) := by decide +kernel
theorem dX5_setSteps_106 : decode cX5_setSteps 106 = .ok (.iload_n 3, 1) := by decide +kernel
theorem dX5_setSteps_107 : decode cX5_setSteps 107 = .ok (.iaload, 1) := by decide +kernel
theorem dX5_setSteps_108 : decode cX5_setSteps 108 = .ok (.istore_n 3, 1) := by decide +kernel
theorem dX5_setSteps_109 : decode cX5_setSteps 109 = .ok (.iinc 4 1, 3) := by decide +kernel
theorem dX5_setSteps_112 : decode cX5_setSteps 112 = .ok (.goto (-19), 3) := by decide +kernel
theorem dX5_setSteps_115 : decode cX5_setSteps 115 = .ok (.iload_n 3, 1) := by decide +kernel
theorem dX5_setSteps_116 : decode cX5_setSteps 116 = .ok (.istore 4, 2) := by decide +kernel
theorem dX5_setSteps_118 : decode cX5_setSteps 118 = .ok (.iload_n 3, 1) := by decide +kernel
theorem dX5_setSteps_119 : decode cX5_setSteps 119 = .ok (.istore 5, 2) := by decide +kernel
theorem dX5_setSteps_121 : decode cX5_setSteps 121 = .ok (.iconst 0, 1) := by decide +kernel
theorem dX5_setSteps_122 : decode cX5_setSteps 122 = .ok (.istore 6, 2) := by decide +kernel
theorem dX5_setSteps_124 : decode cX5_setSteps 124 = .ok (.iload 6, 2) := by decide +kernel
theorem dX5_setSteps_126 : decode cX5_setSteps 126 = .ok (.ifCond .eq 9, 3) := by decide +kernel
theorem dX5_setSteps_129 : decode cX5_setSteps 129 = .ok (.iload_n 3, 1) := by decide +kernel
theorem dX5_setSteps_130 : decode cX5_setSteps 130 = .ok (.iload 4, 2) := by decide +kernel
theorem dX5_setSteps_132 : decode cX5_setSteps 132 = .ok (.if_icmp .eq 30, 3) := by decide +kernel
theorem dX5_setSteps_135 : decode cX5_setSteps 135 = .ok (.aload_n 0, 1) := by decide +kernel
theorem dX5_setSteps_136 : decode cX5_setSteps 136 = .ok (.getfield 35, 3) := by decide +kernel
theorem dX5_setSteps_139 : decode cX5_setSteps 139 = .ok (.iload_n 3, 1) := by decide +kernel
theorem dX5_setSteps_140 : decode cX5_setSteps 140 = .ok (.iaload, 1) := by decide +kernel
theorem dX5_setSteps_141 : decode cX5_setSteps 141 = .ok (.istore_n 3, 1) := by decide +kernel
theorem dX5_setSteps_142 : decode cX5_setSteps 142 = .ok (.iload_n 3, 1) := by decide +kernel
theorem dX5_setSteps_143 : decode cX5_setSteps 143 = .ok (.iload 5, 2) := by decide +kernel
theorem dX5_setSteps_145 : decode cX5_setSteps 145 = .ok (.if_icmp .ge 7, 3) := by decide +kernel
theorem dX5_setSteps_148 : decode cX5_setSteps 148 = .ok (.iload_n 3, 1) := by decide +kernel
theorem dX5_setSteps_149 : decode cX5_setSteps 149 = .ok (.goto 5, 3) := by decide +kernel
theorem dX5_setSteps_152 : decode cX5_setSteps 152 = .ok (.iload 5, 2) := by decide +kernel
theorem dX5_setSteps_154 : decode cX5_setSteps 154 = .ok (.istore 5, 2) := by decide +kernel
theorem dX5_setSteps_156 : decode cX5_setSteps 156 = .ok (.iinc 6 1, 3) := by decide +kernel
theorem dX5_setSteps_159 : decode cX5_setSteps 159 = .ok (.goto (-35), 3) := by decide +kernel
theorem dX5_setSteps_162 : decode cX5_setSteps 162 = .ok (.aload_n 0, 1) := by decide +kernel
theorem dX5_setSteps_163 : decode cX5_setSteps 163 = .ok (.getfield 44, 3) := by decide +kernel
theorem dX5_setSteps_166 : decode cX5_setSteps 166 = .ok (.iload_n 2, 1) := by decide +kernel
theorem dX5_setSteps_167 : decode cX5_setSteps 167 = .ok (.iload 6, 2) := by decide +kernel
theorem dX5_setSteps_169 : decode cX5_setSteps 169 = .ok (.iastore, 1) := by decide +kernel
theorem dX5_setSteps_170 : decode cX5_setSteps 170 = .ok (.aload_n 0, 1) := by decide +kernel
theorem dX5_setSteps_171 : decode cX5_setSteps 171 = .ok (.getfield 47, 3) := by decide +kernel
theorem dX5_setSteps_174 : decode cX5_setSteps 174 = .ok (.iload_n 2, 1) := by decide +kernel
theorem dX5_setSteps_175 : decode cX5_setSteps 175 = .ok (.iload 5, 2) := by decide +kernel
theorem dX5_setSteps_177 : decode cX5_setSteps 177 = .ok (.iastore, 1) := by decide +kernel
theorem dX5_setSteps_178 : decode cX5_setSteps 178 = .ok (.iinc 2 1, 3) := by decide +kernel
theorem dX5_setSteps_181 : decode cX5_setSteps 181 = .ok (.goto (-101), 3) := by decide +kernel
theorem dX5_setSteps_184 : decode cX5_setSteps 184 = .ok (.iconst 0, 1) := by decide +kernel
theorem dX5_setSteps_185 : decode cX5_setSteps 185 = .ok (.istore_n 2, 1) := by decide +kernel
theorem dX5_setSteps_186 : decode cX5_setSteps 186 = .ok (.iload_n 2, 1) := by decide +kernel
theorem dX5_setSteps_187 : decode cX5_setSteps 187 = .ok (.aload_n 0, 1) := by decide +kernel
theorem dX5_setSteps_188 : decode cX5_setSteps 188 = .ok (.getfield 104, 3) := by decide +kernel
theorem dX5_setSteps_191 : decode cX5_setSteps 191 = .ok (.if_icmp .ge 45, 3) := by decide +kernel
theorem dX5_setSteps_194 : decode cX5_setSteps 194 = .ok (.iconst 0, 1) := by decide +kernel
theorem dX5_setSteps_195 : decode cX5_setSteps 195 = .ok (.istore_n 3, 1) := by decide +kernel
theorem dX5_setSteps_196 : decode cX5_setSteps 196 = .ok (.iload_n 2, 1) := by decide +kernel
theorem dX5_setSteps_197 : decode cX5_setSteps 197 = .ok (.istore 4, 2) := by decide +kernel
theorem dX5_setSteps_199 : decode cX5_setSteps 199 = .ok (.aload_n 0, 1) := by decide +kernel
theorem dX5_setSteps_200 : decode cX5_setSteps 200 = .ok (.iload 4, 2) := by decide +kernel
theorem dX5_setSteps_202 : decode cX5_setSteps 202 = .ok (.invokevirtual 137, 3) := by decide +kernel
theorem dX5_setSteps_205 : decode cX5_setSteps 205 = .ok (.ifCond .ne 18, 3) := by decide +kernel
theorem dX5_setSteps_208 : decode cX5_setSteps 208 = .ok (.aload_n 0, 1) := by decide +kernel
theorem dX5_setSteps_209 : decode cX5_setSteps 209 = .ok (.getfield 35, 3) := by decide +kernel
theorem dX5_setSteps_212 : decode cX5_setSteps 212 = .ok (.iload 4, 2) := by decide +kernel
theorem dX5_setSteps_214 : decode cX5_setSteps 214 = .ok (.iaload, 1) := by decide +kernel
theorem dX5_setSteps_215 : decode cX5_setSteps 215 = .ok (.istore 4, 2) := by decide +kernel
theorem dX5_setSteps_217 : decode cX5_setSteps 217 = .ok (.iinc 3 1, 3) := by decide +kernel
theorem dX5_setSteps_220 : decode cX5_setSteps 220 = .ok (.goto (-21), 3) := by decide +kernel
theorem dX5_setSteps_223 : decode cX5_setSteps 223 = .ok (.aload_n 0, 1) := by decide +kernel
theorem dX5_setSteps_224 : decode cX5_setSteps 224 = .ok (.getfield 41, 3) := by decide +kernel
theorem dX5_setSteps_227 : decode cX5_setSteps 227 = .ok (.iload_n 2, 1) := by decide +kernel
theorem dX5_setSteps_228 : decode cX5_setSteps 228 = .ok (.iload_n 3, 1) := by decide +kernel
theorem dX5_setSteps_229 : decode cX5_setSteps 229 = .ok (.iastore, 1) := by decide +kernel
theorem dX5_setSteps_230 : decode cX5_setSteps 230 = .ok (.iinc 2 1, 3) := by decide +kernel
theorem dX5_setSteps_233 : decode cX5_setSteps 233 = .ok (.goto (-47), 3) := by decide +kernel
theorem dX5_setSteps_236 : decode cX5_setSteps 236 = .ok (.return_, 1) := by decide +kernel
theorem dX5_isRound_0 : decode cX5_isRound 0 = .ok (.aload_n 0, 1) := by decide +kernel
theorem dX5_isRound_1 : decode cX5_isRound 1 = .ok (.getfield 47, 3) := by decide +kernel
theorem dX5_isRound_4 : decode cX5_isRound 4 = .ok (.iload_n 1, 1) := by decide +kernel
theorem dX5_isRound_5 : decode cX5_isRound 5 = .ok (.iaload, 1) := by decide +kernel
theorem dX5_isRound_6 : decode cX5_isRound 6 = .ok (.istore_n 2, 1) := by decide +kernel
theorem dX5_isRound_7 : decode cX5_isRound 7 = .ok (.iconst 0, 1) := by decide +kernel
theorem dX5_isRound_8 : decode cX5_isRound 8 = .ok (.istore_n 3, 1) := by decide +kernel
theorem dX5_isRound_9 : decode cX5_isRound 9 = .ok (.iload_n 3, 1) := by decide +kernel
theorem dX5_isRound_10 : decode cX5_isRound 10 = .ok (.aload_n 0, 1) := by decide +kernel
theorem dX5_isRound_11 : decode cX5_isRound 11 = .ok (.getfield 44, 3) := by decide +kernel
theorem dX5_isRound_14 : decode cX5_isRound 14 = .ok (.iload_n 1, 1) := by decide +kernel
theorem dX5_isRound_15 : decode cX5_isRound 15 = .ok (.iaload, 1) := by decide +kernel
theorem dX5_isRound_16 : decode cX5_isRound 16 = .ok (.if_icmp .ge 23, 3) := by decide +kernel
theorem dX5_isRound_19 : decode cX5_isRound 19 = .ok (.iload_n 2, 1) := by decide +kernel
theorem dX5_isRound_20 : decode cX5_isRound 20 = .ok (.iload_n 1, 1) := by decide +kernel
theorem dX5_isRound_21 : decode cX5_isRound 21 = .ok (.if_icmp .ne 5, 3) := by decide +kernel
theorem dX5_isRound_24 : decode cX5_isRound 24 = .ok (.iconst 1, 1) := by decide +kernel
theorem dX5_isRound_25 : decode cX5_isRound 25 = .ok (.ireturn, 1) := by decide +kernel
theorem dX5_isRound_26 : decode cX5_isRound 26 = .ok (.aload_n 0, 1) := by decide +kernel
theorem dX5_isRound_27 : decode cX5_isRound 27 = .ok (.getfield 35, 3) := by decide +kernel
theorem dX5_isRound_30 : decode cX5_isRound 30 = .ok (.iload_n 2, 1) := by decide +kernel
theorem dX5_isRound_31 : decode cX5_isRound 31 = .ok (.iaload, 1) := by decide +kernel
theorem dX5_isRound_32 : decode cX5_isRound 32 = .ok (.istore_n 2, 1) := by decide +kernel
theorem dX5_isRound_33 : decode cX5_isRound 33 = .ok (.iinc 3 1, 3) := by decide +kernel
theorem dX5_isRound_36 : decode cX5_isRound 36 = .ok (.goto (-27), 3) := by decide +kernel
theorem dX5_isRound_39 : decode cX5_isRound 39 = .ok (.iconst 0, 1) := by decide +kernel
theorem dX5_isRound_40 : decode cX5_isRound 40 = .ok (.ireturn, 1) := by decide +kernel
theorem dX5_stepped_0 : decode cX5_stepped 0 = .ok (.aload_n 0, 1) := by decide +kernel
theorem dX5_stepped_1 : decode cX5_stepped 1 = .ok (.iload_n 1, 1) := by decide +kernel
theorem dX5_stepped_2 : decode cX5_stepped 2 = .ok (.invokevirtual 81, 3) := by decide +kernel
theorem dX5_stepped_5 : decode cX5_stepped 5 = .ok (.istore_n 2, 1) := by decide +kernel
theorem dX5_stepped_6 : decode cX5_stepped 6 = .ok (.iload_n 2, 1) := by decide +kernel
theorem dX5_stepped_7 : decode cX5_stepped 7 = .ok (.ifCond .ge 5, 3) := by decide +kernel
theorem dX5_stepped_10 : decode cX5_stepped 10 = .ok (.iload_n 2, 1) := by decide +kernel
theorem dX5_stepped_11 : decode cX5_stepped 11 = .ok (.ireturn, 1) := by decide +kernel
theorem dX5_stepped_12 : decode cX5_stepped 12 = .ok (.aload_n 0, 1) := by decide +kernel
theorem dX5_stepped_13 : decode cX5_stepped 13 = .ok (.aload_n 0, 1) := by decide +kernel
theorem dX5_stepped_14 : decode cX5_stepped 14 = .ok (.iload_n 1, 1) := by decide +kernel
theorem dX5_stepped_15 : decode cX5_stepped 15 = .ok (.invokevirtual 84, 3) := by decide +kernel
theorem dX5_stepped_18 : decode cX5_stepped 18 = .ok (.invokevirtual 140, 3) := by decide +kernel
theorem dX5_stepped_21 : decode cX5_stepped 21 = .ok (.aload_n 0, 1) := by decide +kernel
theorem dX5_stepped_22 : decode cX5_stepped 22 = .ok (.iload_n 1, 1) := by decide +kernel
theorem dX5_stepped_23 : decode cX5_stepped 23 = .ok (.invokevirtual 118, 3) := by decide +kernel
theorem dX5_stepped_26 : decode cX5_stepped 26 = .ok (.aload_n 0, 1) := by decide +kernel
theorem dX5_stepped_27 : decode cX5_stepped 27 = .ok (.invokevirtual 121, 3) := by decide +kernel
theorem dX5_stepped_30 : decode cX5_stepped 30 = .ok (.ireturn, 1) := by decide +kernel
theorem dX5_kindOf_0 : decode cX5_kindOf 0 = .ok (.aload_n 0, 1) := by decide +kernel
theorem dX5_kindOf_1 : decode cX5_kindOf 1 = .ok (.getfield 35, 3) := by decide +kernel
theorem dX5_kindOf_4 : decode cX5_kindOf 4 = .ok (.iload_n 1, 1) := by decide +kernel
theorem dX5_kindOf_5 : decode cX5_kindOf 5 = .ok (.iaload, 1) := by decide +kernel
theorem dX5_kindOf_6 : decode cX5_kindOf 6 = .ok (.iload_n 1, 1) := by decide +kernel
theorem dX5_kindOf_7 : decode cX5_kindOf 7 = .ok (.if_icmp .ne 7, 3) := by decide +kernel
theorem dX5_kindOf_10 : decode cX5_kindOf 10 = .ok (.iconst 2, 1) := by decide +kernel
theorem dX5_kindOf_11 : decode cX5_kindOf 11 = .ok (.goto 30, 3) := by decide +kernel
theorem dX5_kindOf_14 : decode cX5_kindOf 14 = .ok (.aload_n 0, 1) := by decide +kernel
theorem dX5_kindOf_15 : decode cX5_kindOf 15 = .ok (.getfield 41, 3) := by decide +kernel
theorem dX5_kindOf_18 : decode cX5_kindOf 18 = .ok (.iload_n 1, 1) := by decide +kernel
theorem dX5_kindOf_19 : decode cX5_kindOf 19 = .ok (.iaload, 1) := by decide +kernel
theorem dX5_kindOf_20 : decode cX5_kindOf 20 = .ok (.ifCond .ne 7, 3) := by decide +kernel
theorem dX5_kindOf_23 : decode cX5_kindOf 23 = .ok (.iconst 1, 1) := by decide +kernel
theorem dX5_kindOf_24 : decode cX5_kindOf 24 = .ok (.goto 17, 3) := by decide +kernel
theorem dX5_kindOf_27 : decode cX5_kindOf 27 = .ok (.aload_n 0, 1) := by decide +kernel
theorem dX5_kindOf_28 : decode cX5_kindOf 28 = .ok (.getfield 38, 3) := by decide +kernel
theorem dX5_kindOf_31 : decode cX5_kindOf 31 = .ok (.iload_n 1, 1) := by decide +kernel
theorem dX5_kindOf_32 : decode cX5_kindOf 32 = .ok (.iaload, 1) := by decide +kernel
theorem dX5_kindOf_33 : decode cX5_kindOf 33 = .ok (.ifCond .ne 7, 3) := by decide +kernel
theorem dX5_kindOf_36 : decode cX5_kindOf 36 = .ok (.iconst 3, 1) := by decide +kernel
theorem dX5_kindOf_37 : decode cX5_kindOf 37 = .ok (.goto 4, 3) := by decide +kernel
theorem dX5_kindOf_40 : decode cX5_kindOf 40 = .ok (.iconst 0, 1) := by decide +kernel
theorem dX5_kindOf_41 : decode cX5_kindOf 41 = .ok (.ireturn, 1) := by decide +kernel
theorem dX5_kind_0 : decode cX5_kind 0 = .ok (.aload_n 0, 1) := by decide +kernel
theorem dX5_kind_1 : decode cX5_kind 1 = .ok (.iload_n 1, 1) := by decide +kernel
theorem dX5_kind_2 : decode cX5_kind 2 = .ok (.invokevirtual 143, 3) := by decide +kernel
theorem dX5_kind_5 : decode cX5_kind 5 = .ok (.istore_n 2, 1) := by decide +kernel
theorem dX5_kind_6 : decode cX5_kind 6 = .ok (.iload_n 2, 1) := by decide +kernel
theorem dX5_kind_7 : decode cX5_kind 7 = .ok (.ifCond .ge 7, 3) := by decide +kernel
theorem dX5_kind_10 : decode cX5_kind 10 = .ok (.iload_n 2, 1) := by decide +kernel
theorem dX5_kind_11 : decode cX5_kind 11 = .ok (.goto 8, 3) := by decide +kernel
theorem dX5_kind_14 : decode cX5_kind 14 = .ok (.aload_n 0, 1) := by decide +kernel
theorem dX5_kind_15 : decode cX5_kind 15 = .ok (.iload_n 2, 1) := by decide +kernel
theorem dX5_kind_16 : decode cX5_kind 16 = .ok (.invokevirtual 146, 3) := by decide +kernel
theorem dX5_kind_19 : decode cX5_kind 19 = .ok (.ireturn, 1) := by decide +kernel
theorem dX5_mark_0 : decode cX5_mark 0 = .ok (.iload_n 2, 1) := by decide +kernel
theorem dX5_mark_1 : decode cX5_mark 1 = .ok (.iconst 1, 1) := by decide +kernel
theorem dX5_mark_2 : decode cX5_mark 2 = .ok (.iconst 3, 1) := by decide +kernel
theorem dX5_mark_3 : decode cX5_mark 3 = .ok (.invokestatic 69, 3) := by decide +kernel
theorem dX5_mark_6 : decode cX5_mark 6 = .ok (.ifCond .ne 5, 3) := by decide +kernel
theorem dX5_mark_9 : decode cX5_mark 9 = .ok (.iconst (-1), 1) := by decide +kernel
theorem dX5_mark_10 : decode cX5_mark 10 = .ok (.ireturn, 1) := by decide +kernel
theorem dX5_mark_11 : decode cX5_mark 11 = .ok (.aload_n 0, 1) := by decide +kernel
theorem dX5_mark_12 : decode cX5_mark 12 = .ok (.iload_n 1, 1) := by decide +kernel
theorem dX5_mark_13 : decode cX5_mark 13 = .ok (.invokevirtual 143, 3) := by decide +kernel
theorem dX5_mark_16 : decode cX5_mark 16 = .ok (.istore_n 3, 1) := by decide +kernel
theorem dX5_mark_17 : decode cX5_mark 17 = .ok (.iload_n 3, 1) := by decide +kernel
theorem dX5_mark_18 : decode cX5_mark 18 = .ok (.ifCond .ge 5, 3) := by decide +kernel
theorem dX5_mark_21 : decode cX5_mark 21 = .ok (.iload_n 3, 1) := by decide +kernel
theorem dX5_mark_22 : decode cX5_mark 22 = .ok (.ireturn, 1) := by decide +kernel
theorem dX5_mark_23 : decode cX5_mark 23 = .ok (.aload_n 0, 1) := by decide +kernel
theorem dX5_mark_24 : decode cX5_mark 24 = .ok (.iload_n 3, 1) := by decide +kernel
theorem dX5_mark_25 : decode cX5_mark 25 = .ok (.invokevirtual 146, 3) := by decide +kernel
theorem dX5_mark_28 : decode cX5_mark 28 = .ok (.istore 4, 2) := by decide +kernel
theorem dX5_mark_30 : decode cX5_mark 30 = .ok (.iload 4, 2) := by decide +kernel
theorem dX5_mark_32 : decode cX5_mark 32 = .ok (.iload_n 2, 1) := by decide +kernel
theorem dX5_mark_33 : decode cX5_mark 33 = .ok (.if_icmp .eq 20, 3) := by decide +kernel
theorem dX5_mark_36 : decode cX5_mark 36 = .ok (.iload_n 2, 1) := by decide +kernel
theorem dX5_mark_37 : decode cX5_mark 37 = .ok (.iconst 1, 1) := by decide +kernel
theorem dX5_mark_38 : decode cX5_mark 38 = .ok (.if_icmp .ne 9, 3) := by decide +kernel
theorem dX5_mark_41 : decode cX5_mark 41 = .ok (.iload 4, 2) := by decide +kernel
theorem dX5_mark_43 : decode cX5_mark 43 = .ok (.iconst 2, 1) := by decide +kernel
theorem dX5_mark_44 : decode cX5_mark 44 = .ok (.if_icmp .eq 9, 3) := by decide +kernel
theorem dX5_mark_47 : decode cX5_mark 47 = .ok (.aload_n 0, 1) := by decide +kernel
theorem dX5_mark_48 : decode cX5_mark 48 = .ok (.iconst 3, 1) := by decide +kernel
theorem dX5_mark_49 : decode cX5_mark 49 = .ok (.invokevirtual 77, 3) := by decide +kernel
theorem dX5_mark_52 : decode cX5_mark 52 = .ok (.ireturn, 1) := by decide +kernel
theorem dX5_mark_53 : decode cX5_mark 53 = .ok (.iload_n 2, 1) := by decide +kernel
theorem dX5_mark_54 : decode cX5_mark 54 = .ok (.iconst 1, 1) := by decide +kernel
theorem dX5_mark_55 : decode cX5_mark 55 = .ok (.if_icmp .ne 12, 3) := by decide +kernel
theorem dX5_mark_58 : decode cX5_mark 58 = .ok (.aload_n 0, 1) := by decide +kernel
theorem dX5_mark_59 : decode cX5_mark 59 = .ok (.getfield 44, 3) := by decide +kernel
theorem dX5_mark_62 : decode cX5_mark 62 = .ok (.iload_n 3, 1) := by decide +kernel
theorem dX5_mark_63 : decode cX5_mark 63 = .ok (.iaload, 1) := by decide +kernel
theorem dX5_mark_64 : decode cX5_mark 64 = .ok (.goto 18, 3) := by decide +kernel
theorem dX5_mark_67 : decode cX5_mark 67 = .ok (.iload_n 2, 1) := by decide +kernel
theorem dX5_mark_68 : decode cX5_mark 68 = .ok (.iconst 2, 1) := by decide +kernel
theorem dX5_mark_69 : decode cX5_mark 69 = .ok (.if_icmp .ne 7, 3) := by decide +kernel
theorem dX5_mark_72 : decode cX5_mark 72 = .ok (.iload_n 3, 1) := by decide +kernel
theorem dX5_mark_73 : decode cX5_mark 73 = .ok (.goto 9, 3) := by decide +kernel
theorem dX5_mark_76 : decode cX5_mark 76 = .ok (.aload_n 0, 1) := by decide +kernel
theorem dX5_mark_77 : decode cX5_mark 77 = .ok (.getfield 41, 3) := by decide +kernel
theorem dX5_mark_80 : decode cX5_mark 80 = .ok (.iload_n 3, 1) := by decide +kernel
theorem dX5_mark_81 : decode cX5_mark 81 = .ok (.iaload, 1) := by decide +kernel
theorem dX5_mark_82 : decode cX5_mark 82 = .ok (.ireturn, 1) := by decide +kernel
theorem dX5_mean_0 : decode cX5_mean 0 = .ok (.aload_n 0, 1) := by decide +kernel
theorem dX5_mean_1 : decode cX5_mean 1 = .ok (.iload_n 1, 1) := by decide +kernel
theorem dX5_mean_2 : decode cX5_mean 2 = .ok (.invokevirtual 81, 3) := by decide +kernel
theorem dX5_mean_5 : decode cX5_mean 5 = .ok (.istore_n 2, 1) := by decide +kernel
theorem dX5_mean_6 : decode cX5_mean 6 = .ok (.iload_n 2, 1) := by decide +kernel
theorem dX5_mean_7 : decode cX5_mean 7 = .ok (.ifCond .ge 7, 3) := by decide +kernel
theorem dX5_mean_10 : decode cX5_mean 10 = .ok (.iload_n 2, 1) := by decide +kernel
theorem dX5_mean_11 : decode cX5_mean 11 = .ok (.goto 32, 3) := by decide +kernel
theorem dX5_mean_14 : decode cX5_mean 14 = .ok (.aload_n 0, 1) := by decide +kernel
theorem dX5_mean_15 : decode cX5_mean 15 = .ok (.getfield 13, 3) := by decide +kernel
theorem dX5_mean_18 : decode cX5_mean 18 = .ok (.iload_n 1, 1) := by decide +kernel
theorem dX5_mean_19 : decode cX5_mean 19 = .ok (.iaload, 1) := by decide +kernel
theorem dX5_mean_20 : decode cX5_mean 20 = .ok (.ifCond .ne 11, 3) := by decide +kernel
theorem dX5_mean_23 : decode cX5_mean 23 = .ok (.aload_n 0, 1) := by decide +kernel
theorem dX5_mean_24 : decode cX5_mean 24 = .ok (.iconst 4, 1) := by decide +kernel
theorem dX5_mean_25 : decode cX5_mean 25 = .ok (.invokevirtual 77, 3) := by decide +kernel
theorem dX5_mean_28 : decode cX5_mean 28 = .ok (.goto 15, 3) := by decide +kernel
theorem dX5_mean_31 : decode cX5_mean 31 = .ok (.aload_n 0, 1) := by decide +kernel
theorem dX5_mean_32 : decode cX5_mean 32 = .ok (.iload_n 1, 1) := by decide +kernel
theorem dX5_mean_33 : decode cX5_mean 33 = .ok (.invokevirtual 84, 3) := by decide +kernel
theorem dX5_mean_36 : decode cX5_mean 36 = .ok (.aload_n 0, 1) := by decide +kernel
theorem dX5_mean_37 : decode cX5_mean 37 = .ok (.getfield 13, 3) := by decide +kernel
theorem dX5_mean_40 : decode cX5_mean 40 = .ok (.iload_n 1, 1) := by decide +kernel
theorem dX5_mean_41 : decode cX5_mean 41 = .ok (.iaload, 1) := by decide +kernel
theorem dX5_mean_42 : decode cX5_mean 42 = .ok (.idiv, 1) := by decide +kernel
theorem dX5_mean_43 : decode cX5_mean 43 = .ok (.ireturn, 1) := by decide +kernel
theorem dX5_step_0 : decode cX5_step 0 = .ok (.iload_n 2, 1) := by decide +kernel
theorem dX5_step_1 : decode cX5_step 1 = .ok (.iconst 0, 1) := by decide +kernel
theorem dX5_step_2 : decode cX5_step 2 = .ok (.sipush 1000, 3) := by decide +kernel
theorem dX5_step_5 : decode cX5_step 5 = .ok (.invokestatic 69, 3) := by decide +kernel
theorem dX5_step_8 : decode cX5_step 8 = .ok (.ifCond .ne 5, 3) := by decide +kernel
theorem dX5_step_11 : decode cX5_step 11 = .ok (.iconst (-1), 1) := by decide +kernel
theorem dX5_step_12 : decode cX5_step 12 = .ok (.ireturn, 1) := by decide +kernel
theorem dX5_step_13 : decode cX5_step 13 = .ok (.aload_n 0, 1) := by decide +kernel
theorem dX5_step_14 : decode cX5_step 14 = .ok (.iload_n 1, 1) := by decide +kernel
theorem dX5_step_15 : decode cX5_step 15 = .ok (.invokevirtual 81, 3) := by decide +kernel
theorem dX5_step_18 : decode cX5_step 18 = .ok (.istore_n 3, 1) := by decide +kernel
theorem dX5_step_19 : decode cX5_step 19 = .ok (.iload_n 3, 1) := by decide +kernel
theorem dX5_step_20 : decode cX5_step 20 = .ok (.ifCond .ge 5, 3) := by decide +kernel
theorem dX5_step_23 : decode cX5_step 23 = .ok (.iload_n 3, 1) := by decide +kernel
theorem dX5_step_24 : decode cX5_step 24 = .ok (.ireturn, 1) := by decide +kernel
theorem dX5_step_25 : decode cX5_step 25 = .ok (.aload_n 0, 1) := by decide +kernel
theorem dX5_step_26 : decode cX5_step 26 = .ok (.iload_n 1, 1) := by decide +kernel
theorem dX5_step_27 : decode cX5_step 27 = .ok (.invokevirtual 118, 3) := by decide +kernel
theorem dX5_step_30 : decode cX5_step 30 = .ok (.iconst 0, 1) := by decide +kernel
theorem dX5_step_31 : decode cX5_step 31 = .ok (.istore 4, 2) := by decide +kernel
theorem dX5_step_33 : decode cX5_step 33 = .ok (.iload 4, 2) := by decide +kernel
theorem dX5_step_35 : decode cX5_step 35 = .ok (.iload_n 2, 1) := by decide +kernel
theorem dX5_step_36 : decode cX5_step 36 = .ok (.if_icmp .ge 13, 3) := by decide +kernel
theorem dX5_step_39 : decode cX5_step 39 = .ok (.aload_n 0, 1) := by decide +kernel
theorem dX5_step_40 : decode cX5_step 40 = .ok (.invokevirtual 134, 3) := by decide +kernel
theorem dX5_step_43 : decode cX5_step 43 = .ok (.iinc 4 1, 3) := by decide +kernel
theorem dX5_step_46 : decode cX5_step 46 = .ok (.goto (-13), 3) := by decide +kernel
theorem dX5_step_49 : decode cX5_step 49 = .ok (.aload_n 0, 1) := by decide +kernel
theorem dX5_step_50 : decode cX5_step 50 = .ok (.iload_n 1, 1) := by decide +kernel
theorem dX5_step_51 : decode cX5_step 51 = .ok (.invokevirtual 131, 3) := by decide +kernel
theorem dX5_step_54 : decode cX5_step 54 = .ok (.aload_n 0, 1) := by decide +kernel
theorem dX5_step_55 : decode cX5_step 55 = .ok (.getfield 94, 3) := by decide +kernel
theorem dX5_step_58 : decode cX5_step 58 = .ok (.ireturn, 1) := by decide +kernel
theorem dX5_tail_0 : decode cX5_tail 0 = .ok (.aload_n 0, 1) := by decide +kernel
theorem dX5_tail_1 : decode cX5_tail 1 = .ok (.iload_n 1, 1) := by decide +kernel
theorem dX5_tail_2 : decode cX5_tail 2 = .ok (.invokevirtual 143, 3) := by decide +kernel
theorem dX5_tail_5 : decode cX5_tail 5 = .ok (.istore_n 2, 1) := by decide +kernel
theorem dX5_tail_6 : decode cX5_tail 6 = .ok (.iload_n 2, 1) := by decide +kernel
theorem dX5_tail_7 : decode cX5_tail 7 = .ok (.ifCond .ge 7, 3) := by decide +kernel
theorem dX5_tail_10 : decode cX5_tail 10 = .ok (.iload_n 2, 1) := by decide +kernel
theorem dX5_tail_11 : decode cX5_tail 11 = .ok (.goto 9, 3) := by decide +kernel
theorem dX5_tail_14 : decode cX5_tail 14 = .ok (.aload_n 0, 1) := by decide +kernel
theorem dX5_tail_15 : decode cX5_tail 15 = .ok (.getfield 41, 3) := by decide +kernel
theorem dX5_tail_18 : decode cX5_tail 18 = .ok (.iload_n 2, 1) := by decide +kernel
theorem dX5_tail_19 : decode cX5_tail 19 = .ok (.iaload, 1) := by decide +kernel
theorem dX5_tail_20 : decode cX5_tail 20 = .ok (.ireturn, 1) := by decide +kernel
theorem dX5_beat_0 : decode cX5_beat 0 = .ok (.aload_n 0, 1) := by decide +kernel
theorem dX5_beat_1 : decode cX5_beat 1 = .ok (.iload_n 1, 1) := by decide +kernel
theorem dX5_beat_2 : decode cX5_beat 2 = .ok (.invokevirtual 143, 3) := by decide +kernel
theorem dX5_beat_5 : decode cX5_beat 5 = .ok (.istore_n 2, 1) := by decide +kernel
theorem dX5_beat_6 : decode cX5_beat 6 = .ok (.iload_n 2, 1) := by decide +kernel
theorem dX5_beat_7 : decode cX5_beat 7 = .ok (.ifCond .ge 7, 3) := by decide +kernel
theorem dX5_beat_10 : decode cX5_beat 10 = .ok (.iload_n 2, 1) := by decide +kernel
theorem dX5_beat_11 : decode cX5_beat 11 = .ok (.goto 9, 3) := by decide +kernel
theorem dX5_beat_14 : decode cX5_beat 14 = .ok (.aload_n 0, 1) := by decide +kernel
theorem dX5_beat_15 : decode cX5_beat 15 = .ok (.getfield 44, 3) := by decide +kernel
theorem dX5_beat_18 : decode cX5_beat 18 = .ok (.iload_n 2, 1) := by decide +kernel
theorem dX5_beat_19 : decode cX5_beat 19 = .ok (.iaload, 1) := by decide +kernel
theorem dX5_beat_20 : decode cX5_beat 20 = .ok (.ireturn, 1) := by decide +kernel
theorem dX5_leader_0 : decode cX5_leader 0 = .ok (.aload_n 0, 1) := by decide +kernel
theorem dX5_leader_1 : decode cX5_leader 1 = .ok (.iload_n 1, 1) := by decide +kernel
theorem dX5_leader_2 : decode cX5_leader 2 = .ok (.invokevirtual 143, 3) := by decide +kernel
theorem dX5_leader_5 : decode cX5_leader 5 = .ok (.istore_n 2, 1) := by decide +kernel
theorem dX5_leader_6 : decode cX5_leader 6 = .ok (.iload_n 2, 1) := by decide +kernel
theorem dX5_leader_7 : decode cX5_leader 7 = .ok (.ifCond .ge 7, 3) := by decide +kernel
theorem dX5_leader_10 : decode cX5_leader 10 = .ok (.iload_n 2, 1) := by decide +kernel
theorem dX5_leader_11 : decode cX5_leader 11 = .ok (.goto 9, 3) := by decide +kernel
theorem dX5_leader_14 : decode cX5_leader 14 = .ok (.aload_n 0, 1) := by decide +kernel
theorem dX5_leader_15 : decode cX5_leader 15 = .ok (.getfield 47, 3) := by decide +kernel
theorem dX5_leader_18 : decode cX5_leader 18 = .ok (.iload_n 2, 1) := by decide +kernel
theorem dX5_leader_19 : decode cX5_leader 19 = .ok (.iaload, 1) := by decide +kernel
theorem dX5_leader_20 : decode cX5_leader 20 = .ok (.ireturn, 1) := by decide +kernel
theorem dX5_rounds_0 : decode cX5_rounds 0 = .ok (.iload_n 1, 1) := by decide +kernel
theorem dX5_rounds_1 : decode cX5_rounds 1 = .ok (.iconst 0, 1) := by decide +kernel
theorem dX5_rounds_2 : decode cX5_rounds 2 = .ok (.bipush 18, 2) := by decide +kernel
theorem dX5_rounds_4 : decode cX5_rounds 4 = .ok (.invokestatic 69, 3) := by decide +kernel
theorem dX5_rounds_7 : decode cX5_rounds 7 = .ok (.ifCond .eq 12, 3) := by decide +kernel
theorem dX5_rounds_10 : decode cX5_rounds 10 = .ok (.iload_n 2, 1) := by decide +kernel
theorem dX5_rounds_11 : decode cX5_rounds 11 = .ok (.iconst 0, 1) := by decide +kernel
theorem dX5_rounds_12 : decode cX5_rounds 12 = .ok (.iconst 4, 1) := by decide +kernel
theorem dX5_rounds_13 : decode cX5_rounds 13 = .ok (.invokestatic 69, 3) := by decide +kernel
theorem dX5_rounds_16 : decode cX5_rounds 16 = .ok (.ifCond .ne 5, 3) := by decide +kernel
theorem dX5_rounds_19 : decode cX5_rounds 19 = .ok (.iconst (-1), 1) := by decide +kernel
theorem dX5_rounds_20 : decode cX5_rounds 20 = .ok (.ireturn, 1) := by decide +kernel
theorem dX5_rounds_21 : decode cX5_rounds 21 = .ok (.aload_n 0, 1) := by decide +kernel
theorem dX5_rounds_22 : decode cX5_rounds 22 = .ok (.iload_n 1, 1) := by decide +kernel
theorem dX5_rounds_23 : decode cX5_rounds 23 = .ok (.invokevirtual 140, 3) := by decide +kernel
theorem dX5_rounds_26 : decode cX5_rounds 26 = .ok (.iconst 0, 1) := by decide +kernel
theorem dX5_rounds_27 : decode cX5_rounds 27 = .ok (.istore_n 3, 1) := by decide +kernel
theorem dX5_rounds_28 : decode cX5_rounds 28 = .ok (.iconst 0, 1) := by decide +kernel
theorem dX5_rounds_29 : decode cX5_rounds 29 = .ok (.istore 4, 2) := by decide +kernel
theorem dX5_rounds_31 : decode cX5_rounds 31 = .ok (.iconst 0, 1) := by decide +kernel
theorem dX5_rounds_32 : decode cX5_rounds 32 = .ok (.istore 5, 2) := by decide +kernel
theorem dX5_rounds_34 : decode cX5_rounds 34 = .ok (.iload 5, 2) := by decide +kernel
theorem dX5_rounds_36 : decode cX5_rounds 36 = .ok (.aload_n 0, 1) := by decide +kernel
theorem dX5_rounds_37 : decode cX5_rounds 37 = .ok (.getfield 104, 3) := by decide +kernel
theorem dX5_rounds_40 : decode cX5_rounds 40 = .ok (.if_icmp .ge 103, 3) := by decide +kernel
theorem dX5_rounds_43 : decode cX5_rounds 43 = .ok (.iload_n 3, 1) := by decide +kernel
theorem dX5_rounds_44 : decode cX5_rounds 44 = .ok (.iload_n 2, 1) := by decide +kernel
theorem dX5_rounds_45 : decode cX5_rounds 45 = .ok (.ifCond .ne 15, 3) := by decide +kernel
theorem dX5_rounds_48 : decode cX5_rounds 48 = .ok (.aload_n 0, 1) := by decide +kernel
theorem dX5_rounds_49 : decode cX5_rounds 49 = .ok (.getfield 47, 3) := by decide +kernel
theorem dX5_rounds_52 : decode cX5_rounds 52 = .ok (.iload 5, 2) := by decide +kernel
theorem dX5_rounds_54 : decode cX5_rounds 54 = .ok (.iaload, 1) := by decide +kernel
theorem dX5_rounds_55 : decode cX5_rounds 55 = .ok (.iload 5, 2) := by decide +kernel
theorem dX5_rounds_57 : decode cX5_rounds 57 = .ok (.if_icmp .eq 33, 3) := by decide +kernel
theorem dX5_rounds_60 : decode cX5_rounds 60 = .ok (.iload_n 2, 1) := by decide +kernel
theorem dX5_rounds_61 : decode cX5_rounds 61 = .ok (.iconst 1, 1) := by decide +kernel
theorem dX5_rounds_62 : decode cX5_rounds 62 = .ok (.if_icmp .ne 13, 3) := by decide +kernel
theorem dX5_rounds_65 : decode cX5_rounds 65 = .ok (.aload_n 0, 1) := by decide +kernel
theorem dX5_rounds_66 : decode cX5_rounds 66 = .ok (.getfield 41, 3) := by decide +kernel
theorem dX5_rounds_69 : decode cX5_rounds 69 = .ok (.iload 5, 2) := by decide +kernel
theorem dX5_rounds_71 : decode cX5_rounds 71 = .ok (.iaload, 1) := by decide +kernel
theorem dX5_rounds_72 : decode cX5_rounds 72 = .ok (.ifCond .eq 18, 3) := by decide +kernel
theorem dX5_rounds_75 : decode cX5_rounds 75 = .ok (.iload_n 2, 1) := by decide +kernel
theorem dX5_rounds_76 : decode cX5_rounds 76 = .ok (.iconst 3, 1) := by decide +kernel
theorem dX5_rounds_77 : decode cX5_rounds 77 = .ok (.if_icmp .ne 17, 3) := by decide +kernel
theorem dX5_rounds_80 : decode cX5_rounds 80 = .ok (.aload_n 0, 1) := by decide +kernel
theorem dX5_rounds_81 : decode cX5_rounds 81 = .ok (.getfield 38, 3) := by decide +kernel
theorem dX5_rounds_84 : decode cX5_rounds 84 = .ok (.iload 5, 2) := by decide +kernel
theorem dX5_rounds_86 : decode cX5_rounds 86 = .ok (.iaload, 1) := by decide +kernel
theorem dX5_rounds_87 : decode cX5_rounds 87 = .ok (.ifCond .ne 7, 3) := by decide +kernel
theorem dX5_rounds_90 : decode cX5_rounds 90 = .ok (.iconst 1, 1) := by decide +kernel
theorem dX5_rounds_91 : decode cX5_rounds 91 = .ok (.goto 4, 3) := by decide +kernel
theorem dX5_rounds_94 : decode cX5_rounds 94 = .ok (.iconst 0, 1) := by decide +kernel
theorem dX5_rounds_95 : decode cX5_rounds 95 = .ok (.iadd, 1) := by decide +kernel
theorem dX5_rounds_96 : decode cX5_rounds 96 = .ok (.istore_n 3, 1) := by decide +kernel
theorem dX5_rounds_97 : decode cX5_rounds 97 = .ok (.iload_n 2, 1) := by decide +kernel
theorem dX5_rounds_98 : decode cX5_rounds 98 = .ok (.iconst 2, 1) := by decide +kernel
theorem dX5_rounds_99 : decode cX5_rounds 99 = .ok (.if_icmp .ne 13, 3) := by decide +kernel
theorem dX5_rounds_102 : decode cX5_rounds 102 = .ok (.aload_n 0, 1) := by decide +kernel
theorem dX5_rounds_103 : decode cX5_rounds 103 = .ok (.getfield 41, 3) := by decide +kernel
theorem dX5_rounds_106 : decode cX5_rounds 106 = .ok (.iload 5, 2) := by decide +kernel
theorem dX5_rounds_108 : decode cX5_rounds 108 = .ok (.iaload, 1) := by decide +kernel
theorem dX5_rounds_109 : decode cX5_rounds 109 = .ok (.goto 10, 3) := by decide +kernel
theorem dX5_rounds_112 : decode cX5_rounds 112 = .ok (.aload_n 0, 1) := by decide +kernel
theorem dX5_rounds_113 : decode cX5_rounds 113 = .ok (.getfield 44, 3) := by decide +kernel
theorem dX5_rounds_116 : decode cX5_rounds 116 = .ok (.iload 5, 2) := by decide +kernel
theorem dX5_rounds_118 : decode cX5_rounds 118 = .ok (.iaload, 1) := by decide +kernel
theorem dX5_rounds_119 : decode cX5_rounds 119 = .ok (.istore 6, 2) := by decide +kernel
theorem dX5_rounds_121 : decode cX5_rounds 121 = .ok (.iload 6, 2) := by decide +kernel
theorem dX5_rounds_123 : decode cX5_rounds 123 = .ok (.iload 4, 2) := by decide +kernel
theorem dX5_rounds_125 : decode cX5_rounds 125 = .ok (.if_icmp .le 8, 3) := by decide +kernel
theorem dX5_rounds_128 : decode cX5_rounds 128 = .ok (.iload 6, 2) := by decide +kernel
theorem dX5_rounds_130 : decode cX5_rounds 130 = .ok (.goto 5, 3) := by decide +kernel
theorem dX5_rounds_133 : decode cX5_rounds 133 = .ok (.iload 4, 2) := by decide +kernel
theorem dX5_rounds_135 : decode cX5_rounds 135 = .ok (.istore 4, 2) := by decide +kernel
theorem dX5_rounds_137 : decode cX5_rounds 137 = .ok (.iinc 5 1, 3) := by decide +kernel
theorem dX5_rounds_140 : decode cX5_rounds 140 = .ok (.goto (-106), 3) := by decide +kernel
theorem dX5_rounds_143 : decode cX5_rounds 143 = .ok (.iload_n 2, 1) := by decide +kernel
theorem dX5_rounds_144 : decode cX5_rounds 144 = .ok (.iconst 2, 1) := by decide +kernel
theorem dX5_rounds_145 : decode cX5_rounds 145 = .ok (.if_icmp .eq 8, 3) := by decide +kernel
theorem dX5_rounds_148 : decode cX5_rounds 148 = .ok (.iload_n 2, 1) := by decide +kernel
theorem dX5_rounds_149 : decode cX5_rounds 149 = .ok (.iconst 4, 1) := by decide +kernel
theorem dX5_rounds_150 : decode cX5_rounds 150 = .ok (.if_icmp .ne 8, 3) := by decide +kernel
theorem dX5_rounds_153 : decode cX5_rounds 153 = .ok (.iload 4, 2) := by decide +kernel
theorem dX5_rounds_155 : decode cX5_rounds 155 = .ok (.goto 4, 3) := by decide +kernel
theorem dX5_rounds_158 : decode cX5_rounds 158 = .ok (.iload_n 3, 1) := by decide +kernel
theorem dX5_rounds_159 : decode cX5_rounds 159 = .ok (.ireturn, 1) := by decide +kernel
theorem dX5_ring_0 : decode cX5_ring 0 = .ok (.iload_n 1, 1) := by decide +kernel
theorem dX5_ring_1 : decode cX5_ring 1 = .ok (.iconst 0, 1) := by decide +kernel
theorem dX5_ring_2 : decode cX5_ring 2 = .ok (.bipush 18, 2) := by decide +kernel
theorem dX5_ring_4 : decode cX5_ring 4 = .ok (.invokestatic 69, 3) := by decide +kernel
theorem dX5_ring_7 : decode cX5_ring 7 = .ok (.ifCond .ne 5, 3) := by decide +kernel
theorem dX5_ring_10 : decode cX5_ring 10 = .ok (.iconst (-1), 1) := by decide +kernel
theorem dX5_ring_11 : decode cX5_ring 11 = .ok (.ireturn, 1) := by decide +kernel
theorem dX5_ring_12 : decode cX5_ring 12 = .ok (.aload_n 0, 1) := by decide +kernel
theorem dX5_ring_13 : decode cX5_ring 13 = .ok (.iload_n 1, 1) := by decide +kernel
theorem dX5_ring_14 : decode cX5_ring 14 = .ok (.invokevirtual 140, 3) := by decide +kernel
theorem dX5_ring_17 : decode cX5_ring 17 = .ok (.iload_n 2, 1) := by decide +kernel
theorem dX5_ring_18 : decode cX5_ring 18 = .ok (.istore_n 3, 1) := by decide +kernel
theorem dX5_ring_19 : decode cX5_ring 19 = .ok (.iconst 0, 1) := by decide +kernel
theorem dX5_ring_20 : decode cX5_ring 20 = .ok (.istore 4, 2) := by decide +kernel
theorem dX5_ring_22 : decode cX5_ring 22 = .ok (.iload 4, 2) := by decide +kernel
theorem dX5_ring_24 : decode cX5_ring 24 = .ok (.aload_n 0, 1) := by decide +kernel
theorem dX5_ring_25 : decode cX5_ring 25 = .ok (.getfield 104, 3) := by decide +kernel
theorem dX5_ring_28 : decode cX5_ring 28 = .ok (.if_icmp .ge 35, 3) := by decide +kernel
theorem dX5_ring_31 : decode cX5_ring 31 = .ok (.iload_n 3, 1) := by decide +kernel
theorem dX5_ring_32 : decode cX5_ring 32 = .ok (.ifCond .lt 31, 3) := by decide +kernel
theorem dX5_ring_35 : decode cX5_ring 35 = .ok (.aload_n 0, 1) := by decide +kernel
theorem dX5_ring_36 : decode cX5_ring 36 = .ok (.getfield 47, 3) := by decide +kernel
theorem dX5_ring_39 : decode cX5_ring 39 = .ok (.iload 4, 2) := by decide +kernel
theorem dX5_ring_41 : decode cX5_ring 41 = .ok (.iaload, 1) := by decide +kernel
theorem dX5_ring_42 : decode cX5_ring 42 = .ok (.iload 4, 2) := by decide +kernel
theorem dX5_ring_44 : decode cX5_ring 44 = .ok (.if_icmp .ne 13, 3) := by decide +kernel
theorem dX5_ring_47 : decode cX5_ring 47 = .ok (.iload_n 3, 1) := by decide +kernel
theorem dX5_ring_48 : decode cX5_ring 48 = .ok (.ifCond .ne 6, 3) := by decide +kernel
theorem dX5_ring_51 : decode cX5_ring 51 = .ok (.iload 4, 2) := by decide +kernel
theorem dX5_ring_53 : decode cX5_ring 53 = .ok (.ireturn, 1) := by decide +kernel
theorem dX5_ring_54 : decode cX5_ring 54 = .ok (.iinc 3 (-1), 3) := by decide +kernel
theorem dX5_ring_57 : decode cX5_ring 57 = .ok (.iinc 4 1, 3) := by decide +kernel
theorem dX5_ring_60 : decode cX5_ring 60 = .ok (.goto (-38), 3) := by decide +kernel
theorem dX5_ring_63 : decode cX5_ring 63 = .ok (.bipush (-9), 2) := by decide +kernel
theorem dX5_ring_65 : decode cX5_ring 65 = .ok (.ireturn, 1) := by decide +kernel
theorem dX5_from_0 : decode cX5_from 0 = .ok (.aload_n 0, 1) := by decide +kernel
theorem dX5_from_1 : decode cX5_from 1 = .ok (.iload_n 1, 1) := by decide +kernel
theorem dX5_from_2 : decode cX5_from 2 = .ok (.invokevirtual 143, 3) := by decide +kernel
theorem dX5_from_5 : decode cX5_from 5 = .ok (.istore_n 2, 1) := by decide +kernel
theorem dX5_from_6 : decode cX5_from 6 = .ok (.iload_n 2, 1) := by decide +kernel
theorem dX5_from_7 : decode cX5_from 7 = .ok (.ifCond .ge 7, 3) := by decide +kernel
theorem dX5_from_10 : decode cX5_from 10 = .ok (.iload_n 2, 1) := by decide +kernel
theorem dX5_from_11 : decode cX5_from 11 = .ok (.goto 9, 3) := by decide +kernel
theorem dX5_from_14 : decode cX5_from 14 = .ok (.aload_n 0, 1) := by decide +kernel
theorem dX5_from_15 : decode cX5_from 15 = .ok (.getfield 38, 3) := by decide +kernel
theorem dX5_from_18 : decode cX5_from 18 = .ok (.iload_n 2, 1) := by decide +kernel
theorem dX5_from_19 : decode cX5_from 19 = .ok (.iaload, 1) := by decide +kernel
theorem dX5_from_20 : decode cX5_from 20 = .ok (.ireturn, 1) := by decide +kernel
theorem dX5_fromAt_0 : decode cX5_fromAt 0 = .ok (.aload_n 0, 1) := by decide +kernel
theorem dX5_fromAt_1 : decode cX5_fromAt 1 = .ok (.iload_n 1, 1) := by decide +kernel
theorem dX5_fromAt_2 : decode cX5_fromAt 2 = .ok (.invokevirtual 143, 3) := by decide +kernel
theorem dX5_fromAt_5 : decode cX5_fromAt 5 = .ok (.istore_n 3, 1) := by decide +kernel
theorem dX5_fromAt_6 : decode cX5_fromAt 6 = .ok (.iload_n 3, 1) := by decide +kernel
theorem dX5_fromAt_7 : decode cX5_fromAt 7 = .ok (.ifCond .ge 5, 3) := by decide +kernel
theorem dX5_fromAt_10 : decode cX5_fromAt 10 = .ok (.iload_n 3, 1) := by decide +kernel
theorem dX5_fromAt_11 : decode cX5_fromAt 11 = .ok (.ireturn, 1) := by decide +kernel
theorem dX5_fromAt_12 : decode cX5_fromAt 12 = .ok (.iload_n 2, 1) := by decide +kernel
theorem dX5_fromAt_13 : decode cX5_fromAt 13 = .ok (.istore 4, 2) := by decide +kernel
theorem dX5_fromAt_15 : decode cX5_fromAt 15 = .ok (.iconst 0, 1) := by decide +kernel
theorem dX5_fromAt_16 : decode cX5_fromAt 16 = .ok (.istore 5, 2) := by decide +kernel
theorem dX5_fromAt_18 : decode cX5_fromAt 18 = .ok (.iload 5, 2) := by decide +kernel
theorem dX5_fromAt_20 : decode cX5_fromAt 20 = .ok (.aload_n 0, 1) := by decide +kernel
theorem dX5_fromAt_21 : decode cX5_fromAt 21 = .ok (.getfield 104, 3) := by decide +kernel
theorem dX5_fromAt_24 : decode cX5_fromAt 24 = .ok (.if_icmp .ge 36, 3) := by decide +kernel
theorem dX5_fromAt_27 : decode cX5_fromAt 27 = .ok (.iload 4, 2) := by decide +kernel
theorem dX5_fromAt_29 : decode cX5_fromAt 29 = .ok (.ifCond .lt 31, 3) := by decide +kernel
theorem dX5_fromAt_32 : decode cX5_fromAt 32 = .ok (.aload_n 0, 1) := by decide +kernel
theorem dX5_fromAt_33 : decode cX5_fromAt 33 = .ok (.getfield 35, 3) := by decide +kernel
theorem dX5_fromAt_36 : decode cX5_fromAt 36 = .ok (.iload 5, 2) := by decide +kernel
theorem dX5_fromAt_38 : decode cX5_fromAt 38 = .ok (.iaload, 1) := by decide +kernel
theorem dX5_fromAt_39 : decode cX5_fromAt 39 = .ok (.iload_n 3, 1) := by decide +kernel
theorem dX5_fromAt_40 : decode cX5_fromAt 40 = .ok (.if_icmp .ne 14, 3) := by decide +kernel
theorem dX5_fromAt_43 : decode cX5_fromAt 43 = .ok (.iload 4, 2) := by decide +kernel
theorem dX5_fromAt_45 : decode cX5_fromAt 45 = .ok (.ifCond .ne 6, 3) := by decide +kernel
theorem dX5_fromAt_48 : decode cX5_fromAt 48 = .ok (.iload 5, 2) := by decide +kernel
theorem dX5_fromAt_50 : decode cX5_fromAt 50 = .ok (.ireturn, 1) := by decide +kernel
theorem dX5_fromAt_51 : decode cX5_fromAt 51 = .ok (.iinc 4 (-1), 3) := by decide +kernel
theorem dX5_fromAt_54 : decode cX5_fromAt 54 = .ok (.iinc 5 1, 3) := by decide +kernel
theorem dX5_fromAt_57 : decode cX5_fromAt 57 = .ok (.goto (-39), 3) := by decide +kernel
theorem dX5_fromAt_60 : decode cX5_fromAt 60 = .ok (.bipush (-9), 2) := by decide +kernel
theorem dX5_fromAt_62 : decode cX5_fromAt 62 = .ok (.ireturn, 1) := by decide +kernel
theorem dX5_steps_0 : decode cX5_steps 0 = .ok (.iload_n 1, 1) := by decide +kernel
theorem dX5_steps_1 : decode cX5_steps 1 = .ok (.invokestatic 73, 3) := by decide +kernel
theorem dX5_steps_4 : decode cX5_steps 4 = .ok (.ifCond .eq 10, 3) := by decide +kernel
theorem dX5_steps_7 : decode cX5_steps 7 = .ok (.iload_n 2, 1) := by decide +kernel
theorem dX5_steps_8 : decode cX5_steps 8 = .ok (.invokestatic 73, 3) := by decide +kernel
theorem dX5_steps_11 : decode cX5_steps 11 = .ok (.ifCond .ne 5, 3) := by decide +kernel
theorem dX5_steps_14 : decode cX5_steps 14 = .ok (.iconst (-1), 1) := by decide +kernel
theorem dX5_steps_15 : decode cX5_steps 15 = .ok (.ireturn, 1) := by decide +kernel
theorem dX5_steps_16 : decode cX5_steps 16 = .ok (.aload_n 0, 1) := by decide +kernel
theorem dX5_steps_17 : decode cX5_steps 17 = .ok (.getfield 13, 3) := by decide +kernel
theorem dX5_steps_20 : decode cX5_steps 20 = .ok (.iload_n 1, 1) := by decide +kernel
theorem dX5_steps_21 : decode cX5_steps 21 = .ok (.iaload, 1) := by decide +kernel
theorem dX5_steps_22 : decode cX5_steps 22 = .ok (.ifCond .lt 12, 3) := by decide +kernel
theorem dX5_steps_25 : decode cX5_steps 25 = .ok (.aload_n 0, 1) := by decide +kernel
theorem dX5_steps_26 : decode cX5_steps 26 = .ok (.getfield 13, 3) := by decide +kernel
theorem dX5_steps_29 : decode cX5_steps 29 = .ok (.iload_n 2, 1) := by decide +kernel
theorem dX5_steps_30 : decode cX5_steps 30 = .ok (.iaload, 1) := by decide +kernel
theorem dX5_steps_31 : decode cX5_steps 31 = .ok (.ifCond .ge 9, 3) := by decide +kernel
theorem dX5_steps_34 : decode cX5_steps 34 = .ok (.aload_n 0, 1) := by decide +kernel
theorem dX5_steps_35 : decode cX5_steps 35 = .ok (.iconst 1, 1) := by decide +kernel
theorem dX5_steps_36 : decode cX5_steps 36 = .ok (.invokevirtual 77, 3) := by decide +kernel
theorem dX5_steps_39 : decode cX5_steps 39 = .ok (.ireturn, 1) := by decide +kernel
theorem dX5_steps_40 : decode cX5_steps 40 = .ok (.aload_n 0, 1) := by decide +kernel
theorem dX5_steps_41 : decode cX5_steps 41 = .ok (.iload_n 1, 1) := by decide +kernel
theorem dX5_steps_42 : decode cX5_steps 42 = .ok (.invokevirtual 84, 3) := by decide +kernel
theorem dX5_steps_45 : decode cX5_steps 45 = .ok (.aload_n 0, 1) := by decide +kernel
theorem dX5_steps_46 : decode cX5_steps 46 = .ok (.iload_n 2, 1) := by decide +kernel
theorem dX5_steps_47 : decode cX5_steps 47 = .ok (.invokevirtual 84, 3) := by decide +kernel
theorem dX5_steps_50 : decode cX5_steps 50 = .ok (.if_icmp .eq 6, 3) := by decide +kernel
theorem dX5_steps_53 : decode cX5_steps 53 = .ok (.bipush (-9), 2) := by decide +kernel
theorem dX5_steps_55 : decode cX5_steps 55 = .ok (.ireturn, 1) := by decide +kernel
theorem dX5_steps_56 : decode cX5_steps 56 = .ok (.aload_n 0, 1) := by decide +kernel
theorem dX5_steps_57 : decode cX5_steps 57 = .ok (.iload_n 1, 1) := by decide +kernel
theorem dX5_steps_58 : decode cX5_steps 58 = .ok (.invokevirtual 143, 3) := by decide +kernel
theorem dX5_steps_61 : decode cX5_steps 61 = .ok (.istore_n 3, 1) := by decide +kernel
theorem dX5_steps_62 : decode cX5_steps 62 = .ok (.aload_n 0, 1) := by decide +kernel
theorem dX5_steps_63 : decode cX5_steps 63 = .ok (.iload_n 2, 1) := by decide +kernel
theorem dX5_steps_64 : decode cX5_steps 64 = .ok (.invokevirtual 118, 3) := by decide +kernel
theorem dX5_steps_67 : decode cX5_steps 67 = .ok (.aload_n 0, 1) := by decide +kernel
theorem dX5_steps_68 : decode cX5_steps 68 = .ok (.invokevirtual 121, 3) := by decide +kernel
theorem dX5_steps_71 : decode cX5_steps 71 = .ok (.istore 4, 2) := by decide +kernel
theorem dX5_steps_73 : decode cX5_steps 73 = .ok (.iconst 0, 1) := by decide +kernel
theorem dX5_steps_74 : decode cX5_steps 74 = .ok (.istore 5, 2) := by decide +kernel
theorem dX5_steps_76 : decode cX5_steps 76 = .ok (.iload 5, 2) := by decide +kernel
theorem dX5_steps_78 : decode cX5_steps 78 = .ok (.aload_n 0, 1) := by decide +kernel
theorem dX5_steps_79 : decode cX5_steps 79 = .ok (.getfield 104, 3) := by decide +kernel
theorem dX5_steps_82 : decode cX5_steps 82 = .ok (.if_icmp .gt 25, 3) := by decide +kernel
theorem dX5_steps_85 : decode cX5_steps 85 = .ok (.iload_n 3, 1) := by decide +kernel
theorem dX5_steps_86 : decode cX5_steps 86 = .ok (.iload 4, 2) := by decide +kernel
theorem dX5_steps_88 : decode cX5_steps 88 = .ok (.if_icmp .ne 6, 3) := by decide +kernel
theorem dX5_steps_91 : decode cX5_steps 91 = .ok (.iload 5, 2) := by decide +kernel
theorem dX5_steps_93 : decode cX5_steps 93 = .ok (.ireturn, 1) := by decide +kernel
theorem dX5_steps_94 : decode cX5_steps 94 = .ok (.aload_n 0, 1) := by decide +kernel
theorem dX5_steps_95 : decode cX5_steps 95 = .ok (.getfield 35, 3) := by decide +kernel
theorem dX5_steps_98 : decode cX5_steps 98 = .ok (.iload_n 3, 1) := by decide +kernel
theorem dX5_steps_99 : decode cX5_steps 99 = .ok (.iaload, 1) := by decide +kernel
theorem dX5_steps_100 : decode cX5_steps 100 = .ok (.istore_n 3, 1) := by decide +kernel
theorem dX5_steps_101 : decode cX5_steps 101 = .ok (.iinc 5 1, 3) := by decide +kernel
theorem dX5_steps_104 : decode cX5_steps 104 = .ok (.goto (-28), 3) := by decide +kernel
theorem dX5_steps_107 : decode cX5_steps 107 = .ok (.bipush (-9), 2) := by decide +kernel
theorem dX5_steps_109 : decode cX5_steps 109 = .ok (.ireturn, 1) := by decide +kernel
theorem dX5_choices_0 : decode cX5_choices 0 = .ok (.lconst 1, 1) := by decide +kernel
theorem dX5_choices_1 : decode cX5_choices 1 = .ok (.lstore_n 2, 1) := by decide +kernel
theorem dX5_choices_2 : decode cX5_choices 2 = .ok (.iconst 0, 1) := by decide +kernel
theorem dX5_choices_3 : decode cX5_choices 3 = .ok (.istore 4, 2) := by decide +kernel
theorem dX5_choices_5 : decode cX5_choices 5 = .ok (.iload 4, 2) := by decide +kernel
theorem dX5_choices_7 : decode cX5_choices 7 = .ok (.iload_n 1, 1) := by decide +kernel
theorem dX5_choices_8 : decode cX5_choices 8 = .ok (.if_icmp .ge 23, 3) := by decide +kernel
theorem dX5_choices_11 : decode cX5_choices 11 = .ok (.lload_n 2, 1) := by decide +kernel
theorem dX5_choices_12 : decode cX5_choices 12 = .ok (.iload_n 0, 1) := by decide +kernel
theorem dX5_choices_13 : decode cX5_choices 13 = .ok (.iload 4, 2) := by decide +kernel
theorem dX5_choices_15 : decode cX5_choices 15 = .ok (.isub, 1) := by decide +kernel
theorem dX5_choices_16 : decode cX5_choices 16 = .ok (.i2l, 1) := by decide +kernel
theorem dX5_choices_17 : decode cX5_choices 17 = .ok (.lmul, 1) := by decide +kernel
theorem dX5_choices_18 : decode cX5_choices 18 = .ok (.iload 4, 2) := by decide +kernel
theorem dX5_choices_20 : decode cX5_choices 20 = .ok (.iconst 1, 1) := by decide +kernel
theorem dX5_choices_21 : decode cX5_choices 21 = .ok (.iadd, 1) := by decide +kernel
theorem dX5_choices_22 : decode cX5_choices 22 = .ok (.i2l, 1) := by decide +kernel
theorem dX5_choices_23 : decode cX5_choices 23 = .ok (.ldiv, 1) := by decide +kernel
theorem dX5_choices_24 : decode cX5_choices 24 = .ok (.lstore_n 2, 1) := by decide +kernel
theorem dX5_choices_25 : decode cX5_choices 25 = .ok (.iinc 4 1, 3) := by decide +kernel
theorem dX5_choices_28 : decode cX5_choices 28 = .ok (.goto (-23), 3) := by decide +kernel
theorem dX5_choices_31 : decode cX5_choices 31 = .ok (.lload_n 2, 1) := by decide +kernel
theorem dX5_choices_32 : decode cX5_choices 32 = .ok (.lreturn, 1) := by decide +kernel
theorem dX5_addWays_0 : decode cX5_addWays 0 = .ok (.aload_n 0, 1) := by decide +kernel
theorem dX5_addWays_1 : decode cX5_addWays 1 = .ok (.iconst 0, 1) := by decide +kernel
theorem dX5_addWays_2 : decode cX5_addWays 2 = .ok (.putfield 149, 3) := by decide +kernel
theorem dX5_addWays_5 : decode cX5_addWays 5 = .ok (.iconst 0, 1) := by decide +kernel
theorem dX5_addWays_6 : decode cX5_addWays 6 = .ok (.istore 4, 2) := by decide +kernel
theorem dX5_addWays_8 : decode cX5_addWays 8 = .ok (.iload 4, 2) := by decide +kernel
theorem dX5_addWays_10 : decode cX5_addWays 10 = .ok (.aload_n 0, 1) := by decide +kernel
theorem dX5_addWays_11 : decode cX5_addWays 11 = .ok (.getfield 32, 3) := by decide +kernel
theorem dX5_addWays_14 : decode cX5_addWays 14 = .ok (.iload_n 1, 1) := by decide +kernel
theorem dX5_addWays_15 : decode cX5_addWays 15 = .ok (.iaload, 1) := by decide +kernel
theorem dX5_addWays_16 : decode cX5_addWays 16 = .ok (.if_icmp .ge 102, 3) := by decide +kernel
theorem dX5_addWays_19 : decode cX5_addWays 19 = .ok (.aload_n 0, 1) := by decide +kernel
theorem dX5_addWays_20 : decode cX5_addWays 20 = .ok (.getfield 29, 3) := by decide +kernel
theorem dX5_addWays_23 : decode cX5_addWays 23 = .ok (.bipush 18, 2) := by decide +kernel
theorem dX5_addWays_25 : decode cX5_addWays 25 = .ok (.iload_n 1, 1) := by decide +kernel
theorem dX5_addWays_26 : decode cX5_addWays 26 = .ok (.imul, 1) := by decide +kernel
theorem dX5_addWays_27 : decode cX5_addWays 27 = .ok (.iload 4, 2) := by decide +kernel
theorem dX5_addWays_29 : decode cX5_addWays 29 = .ok (.iadd, 1) := by decide +kernel
theorem dX5_addWays_30 : decode cX5_addWays 30 = .ok (.iaload, 1) := by decide +kernel
theorem dX5_addWays_31 : decode cX5_addWays 31 = .ok (.istore 5, 2) := by decide +kernel
theorem dX5_addWays_33 : decode cX5_addWays 33 = .ok (.aload_n 0, 1) := by decide +kernel
theorem dX5_addWays_34 : decode cX5_addWays 34 = .ok (.getfield 149, 3) := by decide +kernel
theorem dX5_addWays_37 : decode cX5_addWays 37 = .ok (.ifCond .eq 19, 3) := by decide +kernel
theorem dX5_addWays_40 : decode cX5_addWays 40 = .ok (.aload_n 0, 1) := by decide +kernel
theorem dX5_addWays_41 : decode cX5_addWays 41 = .ok (.getfield 54, 3) := by decide +kernel
theorem dX5_addWays_44 : decode cX5_addWays 44 = .ok (.aload_n 0, 1) := by decide +kernel
theorem dX5_addWays_45 : decode cX5_addWays 45 = .ok (.getfield 149, 3) := by decide +kernel
theorem dX5_addWays_48 : decode cX5_addWays 48 = .ok (.iconst 1, 1) := by decide +kernel
theorem dX5_addWays_49 : decode cX5_addWays 49 = .ok (.isub, 1) := by decide +kernel
theorem dX5_addWays_50 : decode cX5_addWays 50 = .ok (.iaload, 1) := by decide +kernel
theorem dX5_addWays_51 : decode cX5_addWays 51 = .ok (.iload 5, 2) := by decide +kernel
theorem dX5_addWays_53 : decode cX5_addWays 53 = .ok (.if_icmp .eq 44, 3) := by decide +kernel
theorem dX5_addWays_56 : decode cX5_addWays 56 = .ok (.aload_n 0, 1) := by decide +kernel
theorem dX5_addWays_57 : decode cX5_addWays 57 = .ok (.getfield 54, 3) := by decide +kernel
theorem dX5_addWays_60 : decode cX5_addWays 60 = .ok (.aload_n 0, 1) := by decide +kernel
theorem dX5_addWays_61 : decode cX5_addWays 61 = .ok (.getfield 149, 3) := by decide +kernel
theorem dX5_addWays_64 : decode cX5_addWays 64 = .ok (.iload 5, 2) := by decide +kernel
theorem dX5_addWays_66 : decode cX5_addWays 66 = .ok (.iastore, 1) := by decide +kernel
theorem dX5_addWays_67 : decode cX5_addWays 67 = .ok (.aload_n 0, 1) := by decide +kernel
theorem dX5_addWays_68 : decode cX5_addWays 68 = .ok (.getfield 57, 3) := by decide +kernel
theorem dX5_addWays_71 : decode cX5_addWays 71 = .ok (.aload_n 0, 1) := by decide +kernel
theorem dX5_addWays_72 : decode cX5_addWays 72 = .ok (.getfield 149, 3) := by decide +kernel
theorem dX5_addWays_75 : decode cX5_addWays 75 = .ok (.iconst 0, 1) := by decide +kernel
theorem dX5_addWays_76 : decode cX5_addWays 76 = .ok (.iastore, 1) := by decide +kernel
theorem dX5_addWays_77 : decode cX5_addWays 77 = .ok (.aload_n 0, 1) := by decide +kernel
theorem dX5_addWays_78 : decode cX5_addWays 78 = .ok (.getfield 60, 3) := by decide +kernel
theorem dX5_addWays_81 : decode cX5_addWays 81 = .ok (.aload_n 0, 1) := by decide +kernel
theorem dX5_addWays_82 : decode cX5_addWays 82 = .ok (.getfield 149, 3) := by decide +kernel
theorem dX5_addWays_85 : decode cX5_addWays 85 = .ok (.iconst 0, 1) := by decide +kernel
theorem dX5_addWays_86 : decode cX5_addWays 86 = .ok (.iastore, 1) := by decide +kernel
theorem dX5_addWays_87 : decode cX5_addWays 87 = .ok (.aload_n 0, 1) := by decide +kernel
theorem dX5_addWays_88 : decode cX5_addWays 88 = .ok (.dup, 1) := by decide +kernel
theorem dX5_addWays_89 : decode cX5_addWays 89 = .ok (.getfield 149, 3) := by decide +kernel
theorem dX5_addWays_92 : decode cX5_addWays 92 = .ok (.iconst 1, 1) := by decide +kernel
theorem dX5_addWays_93 : decode cX5_addWays 93 = .ok (.iadd, 1) := by decide +kernel
theorem dX5_addWays_94 : decode cX5_addWays 94 = .ok (.putfield 149, 3) := by decide +kernel
theorem dX5_addWays_97 : decode cX5_addWays 97 = .ok (.aload_n 0, 1) := by decide +kernel
theorem dX5_addWays_98 : decode cX5_addWays 98 = .ok (.getfield 57, 3) := by decide +kernel
theorem dX5_addWays_101 : decode cX5_addWays 101 = .ok (.aload_n 0, 1) := by decide +kernel
theorem dX5_addWays_102 : decode cX5_addWays 102 = .ok (.getfield 149, 3) := by decide +kernel
theorem dX5_addWays_105 : decode cX5_addWays 105 = .ok (.iconst 1, 1) := by decide +kernel
theorem dX5_addWays_106 : decode cX5_addWays 106 = .ok (.isub, 1) := by decide +kernel
theorem dX5_addWays_107 : decode cX5_addWays 107 = .ok (.dup2, 1) := by decide +kernel
theorem dX5_addWays_108 : decode cX5_addWays 108 = .ok (.iaload, 1) := by decide +kernel
theorem dX5_addWays_109 : decode cX5_addWays 109 = .ok (.iconst 1, 1) := by decide +kernel
theorem dX5_addWays_110 : decode cX5_addWays 110 = .ok (.iadd, 1) := by decide +kernel
theorem dX5_addWays_111 : decode cX5_addWays 111 = .ok (.iastore, 1) := by decide +kernel
theorem dX5_addWays_112 : decode cX5_addWays 112 = .ok (.iinc 4 1, 3) := by decide +kernel
theorem dX5_addWays_115 : decode cX5_addWays 115 = .ok (.goto (-107), 3) := by decide +kernel
theorem dX5_addWays_118 : decode cX5_addWays 118 = .ok (.iconst 1, 1) := by decide +kernel
theorem dX5_addWays_119 : decode cX5_addWays 119 = .ok (.istore 4, 2) := by decide +kernel
theorem dX5_addWays_121 : decode cX5_addWays 121 = .ok (.iload 4, 2) := by decide +kernel
theorem dX5_addWays_123 : decode cX5_addWays 123 = .ok (.ifCond .eq 254, 3) := by decide +kernel
theorem dX5_addWays_126 : decode cX5_addWays 126 = .ok (.lload_n 2, 1) := by decide +kernel
theorem dX5_addWays_127 : decode cX5_addWays 127 = .ok (.lstore 5, 2) := by decide +kernel
theorem dX5_addWays_129 : decode cX5_addWays 129 = .ok (.iconst 0, 1) := by decide +kernel
theorem dX5_addWays_130 : decode cX5_addWays 130 = .ok (.istore 7, 2) := by decide +kernel
theorem dX5_addWays_132 : decode cX5_addWays 132 = .ok (.aload_n 0, 1) := by decide +kernel
theorem dX5_addWays_133 : decode cX5_addWays 133 = .ok (.iconst 0, 1) := by decide +kernel
theorem dX5_addWays_134 : decode cX5_addWays 134 = .ok (.putfield 94, 3) := by decide +kernel
theorem dX5_addWays_137 : decode cX5_addWays 137 = .ok (.iconst 0, 1) := by decide +kernel
theorem dX5_addWays_138 : decode cX5_addWays 138 = .ok (.istore 8, 2) := by decide +kernel
theorem dX5_addWays_140 : decode cX5_addWays 140 = .ok (.iload 8, 2) := by decide +kernel
theorem dX5_addWays_142 : decode cX5_addWays 142 = .ok (.aload_n 0, 1) := by decide +kernel
theorem dX5_addWays_143 : decode cX5_addWays 143 = .ok (.getfield 149, 3) := by decide +kernel
theorem dX5_addWays_146 : decode cX5_addWays 146 = .ok (.if_icmp .ge 114, 3) := by decide +kernel
theorem dX5_addWays_149 : decode cX5_addWays 149 = .ok (.lload 5, 2) := by decide +kernel
theorem dX5_addWays_151 : decode cX5_addWays 151 = .ok (.aload_n 0, 1) := by decide +kernel
theorem dX5_addWays_152 : decode cX5_addWays 152 = .ok (.getfield 57, 3) := by decide +kernel
theorem dX5_addWays_155 : decode cX5_addWays 155 = .ok (.iload 8, 2) := by decide +kernel
theorem dX5_addWays_157 : decode cX5_addWays 157 = .ok (.iaload, 1) := by decide +kernel
theorem dX5_addWays_158 : decode cX5_addWays 158 = .ok (.aload_n 0, 1) := by decide +kernel
theorem dX5_addWays_159 : decode cX5_addWays 159 = .ok (.getfield 60, 3) := by decide +kernel
theorem dX5_addWays_162 : decode cX5_addWays 162 = .ok (.iload 8, 2) := by decide +kernel
theorem dX5_addWays_164 : decode cX5_addWays 164 = .ok (.iaload, 1) := by decide +kernel
theorem dX5_addWays_165 : decode cX5_addWays 165 = .ok (.invokestatic 152, 3) := by decide +kernel
theorem dX5_addWays_168 : decode cX5_addWays 168 = .ok (.lmul, 1) := by decide +kernel
theorem dX5_addWays_169 : decode cX5_addWays 169 = .ok (.lstore 5, 2) := by decide +kernel
theorem dX5_addWays_171 : decode cX5_addWays 171 = .ok (.iload 7, 2) := by decide +kernel
theorem dX5_addWays_173 : decode cX5_addWays 173 = .ok (.aload_n 0, 1) := by decide +kernel
theorem dX5_addWays_174 : decode cX5_addWays 174 = .ok (.getfield 60, 3) := by decide +kernel
theorem dX5_addWays_177 : decode cX5_addWays 177 = .ok (.iload 8, 2) := by decide +kernel
theorem dX5_addWays_179 : decode cX5_addWays 179 = .ok (.iaload, 1) := by decide +kernel
theorem dX5_addWays_180 : decode cX5_addWays 180 = .ok (.iadd, 1) := by decide +kernel
theorem dX5_addWays_181 : decode cX5_addWays 181 = .ok (.istore 7, 2) := by decide +kernel
theorem dX5_addWays_183 : decode cX5_addWays 183 = .ok (.iconst 0, 1) := by decide +kernel
theorem dX5_addWays_184 : decode cX5_addWays 184 = .ok (.istore 9, 2) := by decide +kernel
theorem dX5_addWays_186 : decode cX5_addWays 186 = .ok (.iload 9, 2) := by decide +kernel
theorem dX5_addWays_188 : decode cX5_addWays 188 = .ok (.aload_n 0, 1) := by decide +kernel
theorem dX5_addWays_189 : decode cX5_addWays 189 = .ok (.getfield 57, 3) := by decide +kernel
theorem dX5_addWays_192 : decode cX5_addWays 192 = .ok (.iload 8, 2) := by decide +kernel
theorem dX5_addWays_194 : decode cX5_addWays 194 = .ok (.iaload, 1) := by decide +kernel
theorem dX5_addWays_195 : decode cX5_addWays 195 = .ok (.if_icmp .ge 59, 3) := by decide +kernel
theorem dX5_addWays_198 : decode cX5_addWays 198 = .ok (.aload_n 0, 1) := by decide +kernel
theorem dX5_addWays_199 : decode cX5_addWays 199 = .ok (.getfield 22, 3) := by decide +kernel
theorem dX5_addWays_202 : decode cX5_addWays 202 = .ok (.aload_n 0, 1) := by decide +kernel
theorem dX5_addWays_203 : decode cX5_addWays 203 = .ok (.getfield 94, 3) := by decide +kernel
theorem dX5_addWays_206 : decode cX5_addWays 206 = .ok (.iload 9, 2) := by decide +kernel
theorem dX5_addWays_208 : decode cX5_addWays 208 = .ok (.aload_n 0, 1) := by decide +kernel
theorem dX5_addWays_209 : decode cX5_addWays 209 = .ok (.getfield 60, 3) := by decide +kernel
theorem dX5_addWays_212 : decode cX5_addWays 212 = .ok (.iload 8, 2) := by decide +kernel
theorem dX5_addWays_214 : decode cX5_addWays 214 = .ok (.iaload, 1) := by decide +kernel
theorem dX5_addWays_215 : decode cX5_addWays 215 = .ok (.if_icmp .ge 15, 3) := by decide +kernel
theorem dX5_addWays_218 : decode cX5_addWays 218 = .ok (.aload_n 0, 1) := by decide +kernel
theorem dX5_addWays_219 : decode cX5_addWays 219 = .ok (.getfield 54, 3) := by decide +kernel
theorem dX5_addWays_222 : decode cX5_addWays 222 = .ok (.iload 8, 2) := by decide +kernel
theorem dX5_addWays_224 : decode cX5_addWays 224 = .ok (.iaload, 1) := by decide +kernel
theorem dX5_addWays_225 : decode cX5_addWays 225 = .ok (.iconst 1, 1) := by decide +kernel
theorem dX5_addWays_226 : decode cX5_addWays 226 = .ok (.isub, 1) := by decide +kernel
theorem dX5_addWays_227 : decode cX5_addWays 227 = .ok (.goto 10, 3) := by decide +kernel
theorem dX5_addWays_230 : decode cX5_addWays 230 = .ok (.aload_n 0, 1) := by decide +kernel
theorem dX5_addWays_231 : decode cX5_addWays 231 = .ok (.getfield 54, 3) := by decide +kernel
theorem dX5_addWays_234 : decode cX5_addWays 234 = .ok (.iload 8, 2) := by decide +kernel
theorem dX5_addWays_236 : decode cX5_addWays 236 = .ok (.iaload, 1) := by decide +kernel
theorem dX5_addWays_237 : decode cX5_addWays 237 = .ok (.iastore, 1) := by decide +kernel
theorem dX5_addWays_238 : decode cX5_addWays 238 = .ok (.aload_n 0, 1) := by decide +kernel
theorem dX5_addWays_239 : decode cX5_addWays 239 = .ok (.dup, 1) := by decide +kernel
theorem dX5_addWays_240 : decode cX5_addWays 240 = .ok (.getfield 94, 3) := by decide +kernel
theorem dX5_addWays_243 : decode cX5_addWays 243 = .ok (.iconst 1, 1) := by decide +kernel
theorem dX5_addWays_244 : decode cX5_addWays 244 = .ok (.iadd, 1) := by decide +kernel
theorem dX5_addWays_245 : decode cX5_addWays 245 = .ok (.putfield 94, 3) := by decide +kernel
theorem dX5_addWays_248 : decode cX5_addWays 248 = .ok (.iinc 9 1, 3) := by decide +kernel
theorem dX5_addWays_251 : decode cX5_addWays 251 = .ok (.goto (-65), 3) := by decide +kernel
theorem dX5_addWays_254 : decode cX5_addWays 254 = .ok (.iinc 8 1, 3) := by decide +kernel
theorem dX5_addWays_257 : decode cX5_addWays 257 = .ok (.goto (-117), 3) := by decide +kernel
theorem dX5_addWays_260 : decode cX5_addWays 260 = .ok (.aload_n 0, 1) := by decide +kernel
theorem dX5_addWays_261 : decode cX5_addWays 261 = .ok (.getfield 22, 3) := by decide +kernel
theorem dX5_addWays_264 : decode cX5_addWays 264 = .ok (.aload_n 0, 1) := by decide +kernel
theorem dX5_addWays_265 : decode cX5_addWays 265 = .ok (.getfield 94, 3) := by decide +kernel
theorem dX5_addWays_268 : decode cX5_addWays 268 = .ok (.iload 7, 2) := by decide +kernel
theorem dX5_addWays_270 : decode cX5_addWays 270 = .ok (.iastore, 1) := by decide +kernel
theorem dX5_addWays_271 : decode cX5_addWays 271 = .ok (.aload_n 0, 1) := by decide +kernel
theorem dX5_addWays_272 : decode cX5_addWays 272 = .ok (.dup, 1) := by decide +kernel
theorem dX5_addWays_273 : decode cX5_addWays 273 = .ok (.getfield 94, 3) := by decide +kernel
theorem dX5_addWays_276 : decode cX5_addWays 276 = .ok (.iconst 1, 1) := by decide +kernel
theorem dX5_addWays_277 : decode cX5_addWays 277 = .ok (.iadd, 1) := by decide +kernel
theorem dX5_addWays_278 : decode cX5_addWays 278 = .ok (.putfield 94, 3) := by decide +kernel
theorem dX5_addWays_281 : decode cX5_addWays 281 = .ok (.aload_n 0, 1) := by decide +kernel
theorem dX5_addWays_282 : decode cX5_addWays 282 = .ok (.invokevirtual 101, 3) := by decide +kernel
theorem dX5_addWays_285 : decode cX5_addWays 285 = .ok (.aload_n 0, 1) := by decide +kernel
theorem dX5_addWays_286 : decode cX5_addWays 286 = .ok (.getfield 50, 3) := by decide +kernel
theorem dX5_addWays_289 : decode cX5_addWays 289 = .ok (.aload_n 0, 1) := by decide +kernel
theorem dX5_addWays_290 : decode cX5_addWays 290 = .ok (.invokevirtual 121, 3) := by decide +kernel
theorem dX5_addWays_293 : decode cX5_addWays 293 = .ok (.dup2, 1) := by decide +kernel
theorem dX5_addWays_294 : decode cX5_addWays 294 = .ok (.laload, 1) := by decide +kernel
theorem dX5_addWays_295 : decode cX5_addWays 295 = .ok (.lload 5, 2) := by decide +kernel
theorem dX5_addWays_297 : decode cX5_addWays 297 = .ok (.ladd, 1) := by decide +kernel
theorem dX5_addWays_298 : decode cX5_addWays 298 = .ok (.lastore, 1) := by decide +kernel
theorem dX5_addWays_299 : decode cX5_addWays 299 = .ok (.iconst 0, 1) := by decide +kernel
theorem dX5_addWays_300 : decode cX5_addWays 300 = .ok (.istore 8, 2) := by decide +kernel
theorem dX5_addWays_302 : decode cX5_addWays 302 = .ok (.iload 8, 2) := by decide +kernel
theorem dX5_addWays_304 : decode cX5_addWays 304 = .ok (.aload_n 0, 1) := by decide +kernel
theorem dX5_addWays_305 : decode cX5_addWays 305 = .ok (.getfield 149, 3) := by decide +kernel
theorem dX5_addWays_308 : decode cX5_addWays 308 = .ok (.if_icmp .ge 34, 3) := by decide +kernel
theorem dX5_addWays_311 : decode cX5_addWays 311 = .ok (.aload_n 0, 1) := by decide +kernel
theorem dX5_addWays_312 : decode cX5_addWays 312 = .ok (.getfield 60, 3) := by decide +kernel
theorem dX5_addWays_315 : decode cX5_addWays 315 = .ok (.iload 8, 2) := by decide +kernel
theorem dX5_addWays_317 : decode cX5_addWays 317 = .ok (.iaload, 1) := by decide +kernel
theorem dX5_addWays_318 : decode cX5_addWays 318 = .ok (.aload_n 0, 1) := by decide +kernel
theorem dX5_addWays_319 : decode cX5_addWays 319 = .ok (.getfield 57, 3) := by decide +kernel
theorem dX5_addWays_322 : decode cX5_addWays 322 = .ok (.iload 8, 2) := by decide +kernel
theorem dX5_addWays_324 : decode cX5_addWays 324 = .ok (.iaload, 1) := by decide +kernel
theorem dX5_addWays_325 : decode cX5_addWays 325 = .ok (.if_icmp .ne 17, 3) := by decide +kernel
theorem dX5_addWays_328 : decode cX5_addWays 328 = .ok (.aload_n 0, 1) := by decide +kernel
theorem dX5_addWays_329 : decode cX5_addWays 329 = .ok (.getfield 60, 3) := by decide +kernel
theorem dX5_addWays_332 : decode cX5_addWays 332 = .ok (.iload 8, 2) := by decide +kernel
theorem dX5_addWays_334 : decode cX5_addWays 334 = .ok (.iconst 0, 1) := by decide +kernel
theorem dX5_addWays_335 : decode cX5_addWays 335 = .ok (.iastore, 1) := by decide +kernel
theorem dX5_addWays_336 : decode cX5_addWays 336 = .ok (.iinc 8 1, 3) := by decide +kernel
theorem dX5_addWays_339 : decode cX5_addWays 339 = .ok (.goto (-37), 3) := by decide +kernel
theorem dX5_addWays_342 : decode cX5_addWays 342 = .ok (.iload 8, 2) := by decide +kernel
theorem dX5_addWays_344 : decode cX5_addWays 344 = .ok (.aload_n 0, 1) := by decide +kernel
theorem dX5_addWays_345 : decode cX5_addWays 345 = .ok (.getfield 149, 3) := by decide +kernel
theorem dX5_addWays_348 : decode cX5_addWays 348 = .ok (.if_icmp .ge 7, 3) := by decide +kernel
theorem dX5_addWays_351 : decode cX5_addWays 351 = .ok (.iconst 1, 1) := by decide +kernel
theorem dX5_addWays_352 : decode cX5_addWays 352 = .ok (.goto 4, 3) := by decide +kernel
theorem dX5_addWays_355 : decode cX5_addWays 355 = .ok (.iconst 0, 1) := by decide +kernel
theorem dX5_addWays_356 : decode cX5_addWays 356 = .ok (.istore 4, 2) := by decide +kernel
theorem dX5_addWays_358 : decode cX5_addWays 358 = .ok (.iload 4, 2) := by decide +kernel
theorem dX5_addWays_360 : decode cX5_addWays 360 = .ok (.ifCond .eq 14, 3) := by decide +kernel
theorem dX5_addWays_363 : decode cX5_addWays 363 = .ok (.aload_n 0, 1) := by decide +kernel
theorem dX5_addWays_364 : decode cX5_addWays 364 = .ok (.getfield 60, 3) := by decide +kernel
theorem dX5_addWays_367 : decode cX5_addWays 367 = .ok (.iload 8, 2) := by decide +kernel
theorem dX5_addWays_369 : decode cX5_addWays 369 = .ok (.dup2, 1) := by decide +kernel
theorem dX5_addWays_370 : decode cX5_addWays 370 = .ok (.iaload, 1) := by decide +kernel
theorem dX5_addWays_371 : decode cX5_addWays 371 = .ok (.iconst 1, 1) := by decide +kernel
theorem dX5_addWays_372 : decode cX5_addWays 372 = .ok (.iadd, 1) := by decide +kernel
theorem dX5_addWays_373 : decode cX5_addWays 373 = .ok (.iastore, 1) := by decide +kernel
theorem dX5_addWays_374 : decode cX5_addWays 374 = .ok (.goto (-253), 3) := by decide +kernel
theorem dX5_addWays_377 : decode cX5_addWays 377 = .ok (.return_, 1) := by decide +kernel
theorem dX5_noWays_0 : decode cX5_noWays 0 = .ok (.iconst 0, 1) := by decide +kernel
theorem dX5_noWays_1 : decode cX5_noWays 1 = .ok (.istore_n 1, 1) := by decide +kernel
theorem dX5_noWays_2 : decode cX5_noWays 2 = .ok (.iload_n 1, 1) := by decide +kernel
theorem dX5_noWays_3 : decode cX5_noWays 3 = .ok (.sipush 385, 3) := by decide +kernel
theorem dX5_noWays_6 : decode cX5_noWays 6 = .ok (.if_icmp .ge 16, 3) := by decide +kernel
theorem dX5_noWays_9 : decode cX5_noWays 9 = .ok (.aload_n 0, 1) := by decide +kernel
theorem dX5_noWays_10 : decode cX5_noWays 10 = .ok (.getfield 50, 3) := by decide +kernel
theorem dX5_noWays_13 : decode cX5_noWays 13 = .ok (.iload_n 1, 1) := by decide +kernel
theorem dX5_noWays_14 : decode cX5_noWays 14 = .ok (.lconst 0, 1) := by decide +kernel
theorem dX5_noWays_15 : decode cX5_noWays 15 = .ok (.lastore, 1) := by decide +kernel
theorem dX5_noWays_16 : decode cX5_noWays 16 = .ok (.iinc 1 1, 3) := by decide +kernel
theorem dX5_noWays_19 : decode cX5_noWays 19 = .ok (.goto (-17), 3) := by decide +kernel
theorem dX5_noWays_22 : decode cX5_noWays 22 = .ok (.return_, 1) := by decide +kernel
theorem dX5_ways_0 : decode cX5_ways 0 = .ok (.iload_n 1, 1) := by decide +kernel
theorem dX5_ways_1 : decode cX5_ways 1 = .ok (.invokestatic 73, 3) := by decide +kernel
theorem dX5_ways_4 : decode cX5_ways 4 = .ok (.ifCond .eq 10, 3) := by decide +kernel
theorem dX5_ways_7 : decode cX5_ways 7 = .ok (.iload_n 2, 1) := by decide +kernel
theorem dX5_ways_8 : decode cX5_ways 8 = .ok (.invokestatic 73, 3) := by decide +kernel
theorem dX5_ways_11 : decode cX5_ways 11 = .ok (.ifCond .ne 5, 3) := by decide +kernel
theorem dX5_ways_14 : decode cX5_ways 14 = .ok (.iconst (-1), 1) := by decide +kernel
theorem dX5_ways_15 : decode cX5_ways 15 = .ok (.ireturn, 1) := by decide +kernel
theorem dX5_ways_16 : decode cX5_ways 16 = .ok (.aload_n 0, 1) := by decide +kernel
theorem dX5_ways_17 : decode cX5_ways 17 = .ok (.getfield 13, 3) := by decide +kernel
theorem dX5_ways_20 : decode cX5_ways 20 = .ok (.iload_n 1, 1) := by decide +kernel
theorem dX5_ways_21 : decode cX5_ways 21 = .ok (.iaload, 1) := by decide +kernel
theorem dX5_ways_22 : decode cX5_ways 22 = .ok (.ifCond .lt 12, 3) := by decide +kernel
theorem dX5_ways_25 : decode cX5_ways 25 = .ok (.aload_n 0, 1) := by decide +kernel
theorem dX5_ways_26 : decode cX5_ways 26 = .ok (.getfield 13, 3) := by decide +kernel
theorem dX5_ways_29 : decode cX5_ways 29 = .ok (.iload_n 2, 1) := by decide +kernel
theorem dX5_ways_30 : decode cX5_ways 30 = .ok (.iaload, 1) := by decide +kernel
theorem dX5_ways_31 : decode cX5_ways 31 = .ok (.ifCond .ge 9, 3) := by decide +kernel
theorem dX5_ways_34 : decode cX5_ways 34 = .ok (.aload_n 0, 1) := by decide +kernel
theorem dX5_ways_35 : decode cX5_ways 35 = .ok (.iconst 1, 1) := by decide +kernel
theorem dX5_ways_36 : decode cX5_ways 36 = .ok (.invokevirtual 77, 3) := by decide +kernel
theorem dX5_ways_39 : decode cX5_ways 39 = .ok (.ireturn, 1) := by decide +kernel
theorem dX5_ways_40 : decode cX5_ways 40 = .ok (.aload_n 0, 1) := by decide +kernel
theorem dX5_ways_41 : decode cX5_ways 41 = .ok (.iload_n 1, 1) := by decide +kernel
theorem dX5_ways_42 : decode cX5_ways 42 = .ok (.invokevirtual 84, 3) := by decide +kernel
theorem dX5_ways_45 : decode cX5_ways 45 = .ok (.aload_n 0, 1) := by decide +kernel
theorem dX5_ways_46 : decode cX5_ways 46 = .ok (.iload_n 2, 1) := by decide +kernel
theorem dX5_ways_47 : decode cX5_ways 47 = .ok (.invokevirtual 84, 3) := by decide +kernel
theorem dX5_ways_50 : decode cX5_ways 50 = .ok (.if_icmp .eq 5, 3) := by decide +kernel
theorem dX5_ways_53 : decode cX5_ways 53 = .ok (.iconst 0, 1) := by decide +kernel
theorem dX5_ways_54 : decode cX5_ways 54 = .ok (.ireturn, 1) := by decide +kernel
theorem dX5_ways_55 : decode cX5_ways 55 = .ok (.aload_n 0, 1) := by decide +kernel
theorem dX5_ways_56 : decode cX5_ways 56 = .ok (.invokevirtual 156, 3) := by decide +kernel
theorem dX5_ways_59 : decode cX5_ways 59 = .ok (.aload_n 0, 1) := by decide +kernel
theorem dX5_ways_60 : decode cX5_ways 60 = .ok (.aload_n 0, 1) := by decide +kernel
theorem dX5_ways_61 : decode cX5_ways 61 = .ok (.iload_n 1, 1) := by decide +kernel
theorem dX5_ways_62 : decode cX5_ways 62 = .ok (.invokevirtual 125, 3) := by decide +kernel
theorem dX5_ways_65 : decode cX5_ways 65 = .ok (.lconst 1, 1) := by decide +kernel
theorem dX5_ways_66 : decode cX5_ways 66 = .ok (.invokevirtual 159, 3) := by decide +kernel
theorem dX5_ways_69 : decode cX5_ways 69 = .ok (.aload_n 0, 1) := by decide +kernel
theorem dX5_ways_70 : decode cX5_ways 70 = .ok (.getfield 50, 3) := by decide +kernel
theorem dX5_ways_73 : decode cX5_ways 73 = .ok (.aload_n 0, 1) := by decide +kernel
theorem dX5_ways_74 : decode cX5_ways 74 = .ok (.iload_n 2, 1) := by decide +kernel
theorem dX5_ways_75 : decode cX5_ways 75 = .ok (.invokevirtual 125, 3) := by decide +kernel
theorem dX5_ways_78 : decode cX5_ways 78 = .ok (.laload, 1) := by decide +kernel
theorem dX5_ways_79 : decode cX5_ways 79 = .ok (.l2i, 1) := by decide +kernel
theorem dX5_ways_80 : decode cX5_ways 80 = .ok (.ireturn, 1) := by decide +kernel
theorem dX5_reach_0 : decode cX5_reach 0 = .ok (.aload_n 0, 1) := by decide +kernel
theorem dX5_reach_1 : decode cX5_reach 1 = .ok (.iload_n 1, 1) := by decide +kernel
theorem dX5_reach_2 : decode cX5_reach 2 = .ok (.invokevirtual 81, 3) := by decide +kernel
theorem dX5_reach_5 : decode cX5_reach 5 = .ok (.istore_n 2, 1) := by decide +kernel
theorem dX5_reach_6 : decode cX5_reach 6 = .ok (.iload_n 2, 1) := by decide +kernel
theorem dX5_reach_7 : decode cX5_reach 7 = .ok (.ifCond .ge 5, 3) := by decide +kernel
theorem dX5_reach_10 : decode cX5_reach 10 = .ok (.iload_n 2, 1) := by decide +kernel
theorem dX5_reach_11 : decode cX5_reach 11 = .ok (.ireturn, 1) := by decide +kernel
theorem dX5_reach_12 : decode cX5_reach 12 = .ok (.aload_n 0, 1) := by decide +kernel
theorem dX5_reach_13 : decode cX5_reach 13 = .ok (.invokevirtual 156, 3) := by decide +kernel
theorem dX5_reach_16 : decode cX5_reach 16 = .ok (.aload_n 0, 1) := by decide +kernel
theorem dX5_reach_17 : decode cX5_reach 17 = .ok (.aload_n 0, 1) := by decide +kernel
theorem dX5_reach_18 : decode cX5_reach 18 = .ok (.iload_n 1, 1) := by decide +kernel
theorem dX5_reach_19 : decode cX5_reach 19 = .ok (.invokevirtual 125, 3) := by decide +kernel
theorem dX5_reach_22 : decode cX5_reach 22 = .ok (.lconst 1, 1) := by decide +kernel
theorem dX5_reach_23 : decode cX5_reach 23 = .ok (.invokevirtual 159, 3) := by decide +kernel
theorem dX5_reach_26 : decode cX5_reach 26 = .ok (.iconst 0, 1) := by decide +kernel
theorem dX5_reach_27 : decode cX5_reach 27 = .ok (.istore_n 3, 1) := by decide +kernel
theorem dX5_reach_28 : decode cX5_reach 28 = .ok (.iconst 0, 1) := by decide +kernel
theorem dX5_reach_29 : decode cX5_reach 29 = .ok (.istore 4, 2) := by decide +kernel
theorem dX5_reach_31 : decode cX5_reach 31 = .ok (.iload 4, 2) := by decide +kernel
theorem dX5_reach_33 : decode cX5_reach 33 = .ok (.aload_n 0, 1) := by decide +kernel
theorem dX5_reach_34 : decode cX5_reach 34 = .ok (.getfield 104, 3) := by decide +kernel
theorem dX5_reach_37 : decode cX5_reach 37 = .ok (.if_icmp .ge 29, 3) := by decide +kernel
theorem dX5_reach_40 : decode cX5_reach 40 = .ok (.iload_n 3, 1) := by decide +kernel
theorem dX5_reach_41 : decode cX5_reach 41 = .ok (.aload_n 0, 1) := by decide +kernel
theorem dX5_reach_42 : decode cX5_reach 42 = .ok (.getfield 50, 3) := by decide +kernel
theorem dX5_reach_45 : decode cX5_reach 45 = .ok (.iload 4, 2) := by decide +kernel
theorem dX5_reach_47 : decode cX5_reach 47 = .ok (.laload, 1) := by decide +kernel
theorem dX5_reach_48 : decode cX5_reach 48 = .ok (.lconst 0, 1) := by decide +kernel
theorem dX5_reach_49 : decode cX5_reach 49 = .ok (.lcmp, 1) := by decide +kernel
theorem dX5_reach_50 : decode cX5_reach 50 = .ok (.ifCond .le 7, 3) := by decide +kernel
theorem dX5_reach_53 : decode cX5_reach 53 = .ok (.iconst 1, 1) := by decide +kernel
theorem dX5_reach_54 : decode cX5_reach 54 = .ok (.goto 4, 3) := by decide +kernel
theorem dX5_reach_57 : decode cX5_reach 57 = .ok (.iconst 0, 1) := by decide +kernel
theorem dX5_reach_58 : decode cX5_reach 58 = .ok (.iadd, 1) := by decide +kernel
theorem dX5_reach_59 : decode cX5_reach 59 = .ok (.istore_n 3, 1) := by decide +kernel
theorem dX5_reach_60 : decode cX5_reach 60 = .ok (.iinc 4 1, 3) := by decide +kernel
theorem dX5_reach_63 : decode cX5_reach 63 = .ok (.goto (-32), 3) := by decide +kernel
theorem dX5_reach_66 : decode cX5_reach 66 = .ok (.iload_n 3, 1) := by decide +kernel
theorem dX5_reach_67 : decode cX5_reach 67 = .ok (.ireturn, 1) := by decide +kernel
theorem dX5_walks_0 : decode cX5_walks 0 = .ok (.iload_n 1, 1) := by decide +kernel
theorem dX5_walks_1 : decode cX5_walks 1 = .ok (.invokestatic 73, 3) := by decide +kernel
theorem dX5_walks_4 : decode cX5_walks 4 = .ok (.ifCond .eq 19, 3) := by decide +kernel
theorem dX5_walks_7 : decode cX5_walks 7 = .ok (.iload_n 2, 1) := by decide +kernel
theorem dX5_walks_8 : decode cX5_walks 8 = .ok (.invokestatic 73, 3) := by decide +kernel
theorem dX5_walks_11 : decode cX5_walks 11 = .ok (.ifCond .eq 12, 3) := by decide +kernel
theorem dX5_walks_14 : decode cX5_walks 14 = .ok (.iload_n 3, 1) := by decide +kernel
theorem dX5_walks_15 : decode cX5_walks 15 = .ok (.iconst 0, 1) := by decide +kernel
theorem dX5_walks_16 : decode cX5_walks 16 = .ok (.iconst 3, 1) := by decide +kernel
theorem dX5_walks_17 : decode cX5_walks 17 = .ok (.invokestatic 69, 3) := by decide +kernel
theorem dX5_walks_20 : decode cX5_walks 20 = .ok (.ifCond .ne 5, 3) := by decide +kernel
theorem dX5_walks_23 : decode cX5_walks 23 = .ok (.iconst (-1), 1) := by decide +kernel
theorem dX5_walks_24 : decode cX5_walks 24 = .ok (.ireturn, 1) := by decide +kernel
theorem dX5_walks_25 : decode cX5_walks 25 = .ok (.aload_n 0, 1) := by decide +kernel
theorem dX5_walks_26 : decode cX5_walks 26 = .ok (.getfield 13, 3) := by decide +kernel
theorem dX5_walks_29 : decode cX5_walks 29 = .ok (.iload_n 1, 1) := by decide +kernel
theorem dX5_walks_30 : decode cX5_walks 30 = .ok (.iaload, 1) := by decide +kernel
theorem dX5_walks_31 : decode cX5_walks 31 = .ok (.ifCond .lt 12, 3) := by decide +kernel
theorem dX5_walks_34 : decode cX5_walks 34 = .ok (.aload_n 0, 1) := by decide +kernel
theorem dX5_walks_35 : decode cX5_walks 35 = .ok (.getfield 13, 3) := by decide +kernel
theorem dX5_walks_38 : decode cX5_walks 38 = .ok (.iload_n 2, 1) := by decide +kernel
theorem dX5_walks_39 : decode cX5_walks 39 = .ok (.iaload, 1) := by decide +kernel
theorem dX5_walks_40 : decode cX5_walks 40 = .ok (.ifCond .ge 9, 3) := by decide +kernel
theorem dX5_walks_43 : decode cX5_walks 43 = .ok (.aload_n 0, 1) := by decide +kernel
theorem dX5_walks_44 : decode cX5_walks 44 = .ok (.iconst 1, 1) := by decide +kernel
theorem dX5_walks_45 : decode cX5_walks 45 = .ok (.invokevirtual 77, 3) := by decide +kernel
theorem dX5_walks_48 : decode cX5_walks 48 = .ok (.ireturn, 1) := by decide +kernel
theorem dX5_walks_49 : decode cX5_walks 49 = .ok (.aload_n 0, 1) := by decide +kernel
theorem dX5_walks_50 : decode cX5_walks 50 = .ok (.lconst 0, 1) := by decide +kernel
theorem dX5_walks_51 : decode cX5_walks 51 = .ok (.putfield 163, 3) := by decide +kernel
theorem dX5_walks_54 : decode cX5_walks 54 = .ok (.aload_n 0, 1) := by decide +kernel
theorem dX5_walks_55 : decode cX5_walks 55 = .ok (.iload_n 1, 1) := by decide +kernel
theorem dX5_walks_56 : decode cX5_walks 56 = .ok (.invokevirtual 84, 3) := by decide +kernel
theorem dX5_walks_59 : decode cX5_walks 59 = .ok (.aload_n 0, 1) := by decide +kernel
theorem dX5_walks_60 : decode cX5_walks 60 = .ok (.iload_n 2, 1) := by decide +kernel
theorem dX5_walks_61 : decode cX5_walks 61 = .ok (.invokevirtual 84, 3) := by decide +kernel
theorem dX5_walks_64 : decode cX5_walks 64 = .ok (.if_icmp .ne 130, 3) := by decide +kernel
theorem dX5_walks_67 : decode cX5_walks 67 = .ok (.aload_n 0, 1) := by decide +kernel
theorem dX5_walks_68 : decode cX5_walks 68 = .ok (.invokevirtual 156, 3) := by decide +kernel
theorem dX5_walks_71 : decode cX5_walks 71 = .ok (.aload_n 0, 1) := by decide +kernel
theorem dX5_walks_72 : decode cX5_walks 72 = .ok (.getfield 50, 3) := by decide +kernel
theorem dX5_walks_75 : decode cX5_walks 75 = .ok (.aload_n 0, 1) := by decide +kernel
theorem dX5_walks_76 : decode cX5_walks 76 = .ok (.iload_n 1, 1) := by decide +kernel
theorem dX5_walks_77 : decode cX5_walks 77 = .ok (.invokevirtual 125, 3) := by decide +kernel
theorem dX5_walks_80 : decode cX5_walks 80 = .ok (.lconst 1, 1) := by decide +kernel
theorem dX5_walks_81 : decode cX5_walks 81 = .ok (.lastore, 1) := by decide +kernel
theorem dX5_walks_82 : decode cX5_walks 82 = .ok (.iconst 0, 1) := by decide +kernel
theorem dX5_walks_83 : decode cX5_walks 83 = .ok (.istore 4, 2) := by decide +kernel
theorem dX5_walks_85 : decode cX5_walks 85 = .ok (.iload 4, 2) := by decide +kernel
theorem dX5_walks_87 : decode cX5_walks 87 = .ok (.iload_n 3, 1) := by decide +kernel
theorem dX5_walks_88 : decode cX5_walks 88 = .ok (.if_icmp .ge 92, 3) := by decide +kernel
theorem dX5_walks_91 : decode cX5_walks 91 = .ok (.iconst 0, 1) := by decide +kernel
theorem dX5_walks_92 : decode cX5_walks 92 = .ok (.istore 5, 2) := by decide +kernel
theorem dX5_walks_94 : decode cX5_walks 94 = .ok (.iload 5, 2) := by decide +kernel
theorem dX5_walks_96 : decode cX5_walks 96 = .ok (.aload_n 0, 1) := by decide +kernel
theorem dX5_walks_97 : decode cX5_walks 97 = .ok (.getfield 104, 3) := by decide +kernel
theorem dX5_walks_100 : decode cX5_walks 100 = .ok (.if_icmp .ge 31, 3) := by decide +kernel
theorem dX5_walks_103 : decode cX5_walks 103 = .ok (.aload_n 0, 1) := by decide +kernel
theorem dX5_walks_104 : decode cX5_walks 104 = .ok (.getfield 63, 3) := by decide +kernel
theorem dX5_walks_107 : decode cX5_walks 107 = .ok (.iload 5, 2) := by decide +kernel
theorem dX5_walks_109 : decode cX5_walks 109 = .ok (.aload_n 0, 1) := by decide +kernel
theorem dX5_walks_110 : decode cX5_walks 110 = .ok (.getfield 50, 3) := by decide +kernel
theorem dX5_walks_113 : decode cX5_walks 113 = .ok (.iload 5, 2) := by decide +kernel
theorem dX5_walks_115 : decode cX5_walks 115 = .ok (.laload, 1) := by decide +kernel
theorem dX5_walks_116 : decode cX5_walks 116 = .ok (.lastore, 1) := by decide +kernel
theorem dX5_walks_117 : decode cX5_walks 117 = .ok (.aload_n 0, 1) := by decide +kernel
theorem dX5_walks_118 : decode cX5_walks 118 = .ok (.getfield 50, 3) := by decide +kernel
theorem dX5_walks_121 : decode cX5_walks 121 = .ok (.iload 5, 2) := by decide +kernel
theorem dX5_walks_123 : decode cX5_walks 123 = .ok (.lconst 0, 1) := by decide +kernel
theorem dX5_walks_124 : decode cX5_walks 124 = .ok (.lastore, 1) := by decide +kernel
theorem dX5_walks_125 : decode cX5_walks 125 = .ok (.iinc 5 1, 3) := by decide +kernel
theorem dX5_walks_128 : decode cX5_walks 128 = .ok (.goto (-34), 3) := by decide +kernel
theorem dX5_walks_131 : decode cX5_walks 131 = .ok (.iconst 0, 1) := by decide +kernel
theorem dX5_walks_132 : decode cX5_walks 132 = .ok (.istore 5, 2) := by decide +kernel
theorem dX5_walks_134 : decode cX5_walks 134 = .ok (.iload 5, 2) := by decide +kernel
theorem dX5_walks_136 : decode cX5_walks 136 = .ok (.aload_n 0, 1) := by decide +kernel
theorem dX5_walks_137 : decode cX5_walks 137 = .ok (.getfield 104, 3) := by decide +kernel
theorem dX5_walks_140 : decode cX5_walks 140 = .ok (.if_icmp .ge 34, 3) := by decide +kernel
theorem dX5_walks_143 : decode cX5_walks 143 = .ok (.aload_n 0, 1) := by decide +kernel
theorem dX5_walks_144 : decode cX5_walks 144 = .ok (.getfield 63, 3) := by decide +kernel
theorem dX5_walks_147 : decode cX5_walks 147 = .ok (.iload 5, 2) := by decide +kernel
theorem dX5_walks_149 : decode cX5_walks 149 = .ok (.laload, 1) := by decide +kernel
theorem dX5_walks_150 : decode cX5_walks 150 = .ok (.lconst 0, 1) := by decide +kernel
theorem dX5_walks_151 : decode cX5_walks 151 = .ok (.lcmp, 1) := by decide +kernel
theorem dX5_walks_152 : decode cX5_walks 152 = .ok (.ifCond .le 16, 3) := by decide +kernel
theorem dX5_walks_155 : decode cX5_walks 155 = .ok (.aload_n 0, 1) := by decide +kernel
theorem dX5_walks_156 : decode cX5_walks 156 = .ok (.iload 5, 2) := by decide +kernel
theorem dX5_walks_158 : decode cX5_walks 158 = .ok (.aload_n 0, 1) := by decide +kernel
theorem dX5_walks_159 : decode cX5_walks 159 = .ok (.getfield 63, 3) := by decide +kernel
theorem dX5_walks_162 : decode cX5_walks 162 = .ok (.iload 5, 2) := by decide +kernel
theorem dX5_walks_164 : decode cX5_walks 164 = .ok (.laload, 1) := by decide +kernel
theorem dX5_walks_165 : decode cX5_walks 165 = .ok (.invokevirtual 159, 3) := by decide +kernel
theorem dX5_walks_168 : decode cX5_walks 168 = .ok (.iinc 5 1, 3) := by decide +kernel
theorem dX5_walks_171 : decode cX5_walks 171 = .ok (.goto (-37), 3) := by decide +kernel
theorem dX5_walks_174 : decode cX5_walks 174 = .ok (.iinc 4 1, 3) := by decide +kernel
theorem dX5_walks_177 : decode cX5_walks 177 = .ok (.goto (-92), 3) := by decide +kernel
theorem dX5_walks_180 : decode cX5_walks 180 = .ok (.aload_n 0, 1) := by decide +kernel
theorem dX5_walks_181 : decode cX5_walks 181 = .ok (.aload_n 0, 1) := by decide +kernel
theorem dX5_walks_182 : decode cX5_walks 182 = .ok (.getfield 50, 3) := by decide +kernel
theorem dX5_walks_185 : decode cX5_walks 185 = .ok (.aload_n 0, 1) := by decide +kernel
theorem dX5_walks_186 : decode cX5_walks 186 = .ok (.iload_n 2, 1) := by decide +kernel
theorem dX5_walks_187 : decode cX5_walks 187 = .ok (.invokevirtual 125, 3) := by decide +kernel
theorem dX5_walks_190 : decode cX5_walks 190 = .ok (.laload, 1) := by decide +kernel
theorem dX5_walks_191 : decode cX5_walks 191 = .ok (.putfield 163, 3) := by decide +kernel
theorem dX5_walks_194 : decode cX5_walks 194 = .ok (.iconst 1, 1) := by decide +kernel
theorem dX5_walks_195 : decode cX5_walks 195 = .ok (.ireturn, 1) := by decide +kernel
theorem dX5_asked_0 : decode cX5_asked 0 = .ok (.aload_n 0, 1) := by decide +kernel
theorem dX5_asked_1 : decode cX5_asked 1 = .ok (.getfield 163, 3) := by decide +kernel
theorem dX5_asked_4 : decode cX5_asked 4 = .ok (.lreturn, 1) := by decide +kernel
theorem dX5_told_0 : decode cX5_told 0 = .ok (.iload_n 2, 1) := by decide +kernel
theorem dX5_told_1 : decode cX5_told 1 = .ok (.iconst 0, 1) := by decide +kernel
theorem dX5_told_2 : decode cX5_told 2 = .ok (.iconst 3, 1) := by decide +kernel
theorem dX5_told_3 : decode cX5_told 3 = .ok (.invokestatic 69, 3) := by decide +kernel
theorem dX5_told_6 : decode cX5_told 6 = .ok (.ifCond .ne 5, 3) := by decide +kernel
theorem dX5_told_9 : decode cX5_told 9 = .ok (.iconst (-1), 1) := by decide +kernel
theorem dX5_told_10 : decode cX5_told 10 = .ok (.ireturn, 1) := by decide +kernel
theorem dX5_told_11 : decode cX5_told 11 = .ok (.aload_n 0, 1) := by decide +kernel
theorem dX5_told_12 : decode cX5_told 12 = .ok (.iload_n 1, 1) := by decide +kernel
theorem dX5_told_13 : decode cX5_told 13 = .ok (.invokevirtual 81, 3) := by decide +kernel
theorem dX5_told_16 : decode cX5_told 16 = .ok (.istore_n 3, 1) := by decide +kernel
theorem dX5_told_17 : decode cX5_told 17 = .ok (.iload_n 3, 1) := by decide +kernel
theorem dX5_told_18 : decode cX5_told 18 = .ok (.ifCond .ge 5, 3) := by decide +kernel
theorem dX5_told_21 : decode cX5_told 21 = .ok (.iload_n 3, 1) := by decide +kernel
theorem dX5_told_22 : decode cX5_told 22 = .ok (.ireturn, 1) := by decide +kernel
theorem dX5_told_23 : decode cX5_told 23 = .ok (.iconst 0, 1) := by decide +kernel
theorem dX5_told_24 : decode cX5_told 24 = .ok (.istore 4, 2) := by decide +kernel
theorem dX5_told_26 : decode cX5_told 26 = .ok (.iconst 0, 1) := by decide +kernel
theorem dX5_told_27 : decode cX5_told 27 = .ok (.istore 5, 2) := by decide +kernel
theorem dX5_told_29 : decode cX5_told 29 = .ok (.iload 5, 2) := by decide +kernel
theorem dX5_told_31 : decode cX5_told 31 = .ok (.aload_n 0, 1) := by decide +kernel
theorem dX5_told_32 : decode cX5_told 32 = .ok (.getfield 13, 3) := by decide +kernel
theorem dX5_told_35 : decode cX5_told 35 = .ok (.iload_n 1, 1) := by decide +kernel
theorem dX5_told_36 : decode cX5_told 36 = .ok (.iaload, 1) := by decide +kernel
theorem dX5_told_37 : decode cX5_told 37 = .ok (.if_icmp .ge 53, 3) := by decide +kernel
theorem dX5_told_40 : decode cX5_told 40 = .ok (.iload 4, 2) := by decide +kernel
theorem dX5_told_42 : decode cX5_told 42 = .ok (.iload 5, 2) := by decide +kernel
theorem dX5_told_44 : decode cX5_told 44 = .ok (.ifCond .eq 32, 3) := by decide +kernel
theorem dX5_told_47 : decode cX5_told 47 = .ok (.aload_n 0, 1) := by decide +kernel
theorem dX5_told_48 : decode cX5_told 48 = .ok (.getfield 16, 3) := by decide +kernel
theorem dX5_told_51 : decode cX5_told 51 = .ok (.bipush 18, 2) := by decide +kernel
theorem dX5_told_53 : decode cX5_told 53 = .ok (.iload_n 1, 1) := by decide +kernel
theorem dX5_told_54 : decode cX5_told 54 = .ok (.imul, 1) := by decide +kernel
theorem dX5_told_55 : decode cX5_told 55 = .ok (.iload 5, 2) := by decide +kernel
theorem dX5_told_57 : decode cX5_told 57 = .ok (.iadd, 1) := by decide +kernel
theorem dX5_told_58 : decode cX5_told 58 = .ok (.iaload, 1) := by decide +kernel
theorem dX5_told_59 : decode cX5_told 59 = .ok (.aload_n 0, 1) := by decide +kernel
theorem dX5_told_60 : decode cX5_told 60 = .ok (.getfield 16, 3) := by decide +kernel
theorem dX5_told_63 : decode cX5_told 63 = .ok (.bipush 18, 2) := by decide +kernel
theorem dX5_told_65 : decode cX5_told 65 = .ok (.iload_n 1, 1) := by decide +kernel
theorem dX5_told_66 : decode cX5_told 66 = .ok (.imul, 1) := by decide +kernel
theorem dX5_told_67 : decode cX5_told 67 = .ok (.iload 5, 2) := by decide +kernel
theorem dX5_told_69 : decode cX5_told 69 = .ok (.iadd, 1) := by decide +kernel
theorem dX5_told_70 : decode cX5_told 70 = .ok (.iconst 1, 1) := by decide +kernel
theorem dX5_told_71 : decode cX5_told 71 = .ok (.isub, 1) := by decide +kernel
theorem dX5_told_72 : decode cX5_told 72 = .ok (.iaload, 1) := by decide +kernel
theorem dX5_told_73 : decode cX5_told 73 = .ok (.if_icmp .eq 7, 3) := by decide +kernel
theorem dX5_told_76 : decode cX5_told 76 = .ok (.iconst 1, 1) := by decide +kernel
theorem dX5_told_77 : decode cX5_told 77 = .ok (.goto 4, 3) := by decide +kernel
theorem dX5_told_80 : decode cX5_told 80 = .ok (.iconst 0, 1) := by decide +kernel
theorem dX5_told_81 : decode cX5_told 81 = .ok (.iadd, 1) := by decide +kernel
theorem dX5_told_82 : decode cX5_told 82 = .ok (.istore 4, 2) := by decide +kernel
theorem dX5_told_84 : decode cX5_told 84 = .ok (.iinc 5 1, 3) := by decide +kernel
theorem dX5_told_87 : decode cX5_told 87 = .ok (.goto (-58), 3) := by decide +kernel
theorem dX5_told_90 : decode cX5_told 90 = .ok (.iload_n 2, 1) := by decide +kernel
theorem dX5_told_91 : decode cX5_told 91 = .ok (.ifCond .ne 11, 3) := by decide +kernel
theorem dX5_told_94 : decode cX5_told 94 = .ok (.aload_n 0, 1) := by decide +kernel
theorem dX5_told_95 : decode cX5_told 95 = .ok (.iload_n 1, 1) := by decide +kernel
theorem dX5_told_96 : decode cX5_told 96 = .ok (.invokevirtual 84, 3) := by decide +kernel
theorem dX5_told_99 : decode cX5_told 99 = .ok (.goto 49, 3) := by decide +kernel
theorem dX5_told_102 : decode cX5_told 102 = .ok (.iload_n 2, 1) := by decide +kernel
theorem dX5_told_103 : decode cX5_told 103 = .ok (.iconst 1, 1) := by decide +kernel
theorem dX5_told_104 : decode cX5_told 104 = .ok (.if_icmp .ne 12, 3) := by decide +kernel
theorem dX5_told_107 : decode cX5_told 107 = .ok (.aload_n 0, 1) := by decide +kernel
theorem dX5_told_108 : decode cX5_told 108 = .ok (.getfield 13, 3) := by decide +kernel
theorem dX5_told_111 : decode cX5_told 111 = .ok (.iload_n 1, 1) := by decide +kernel
theorem dX5_told_112 : decode cX5_told 112 = .ok (.iaload, 1) := by decide +kernel
theorem dX5_told_113 : decode cX5_told 113 = .ok (.goto 35, 3) := by decide +kernel
theorem dX5_told_116 : decode cX5_told 116 = .ok (.iload_n 2, 1) := by decide +kernel
theorem dX5_told_117 : decode cX5_told 117 = .ok (.iconst 3, 1) := by decide +kernel
theorem dX5_told_118 : decode cX5_told 118 = .ok (.if_icmp .ne 8, 3) := by decide +kernel
theorem dX5_told_121 : decode cX5_told 121 = .ok (.iload 4, 2) := by decide +kernel
theorem dX5_told_123 : decode cX5_told 123 = .ok (.goto 25, 3) := by decide +kernel
theorem dX5_told_126 : decode cX5_told 126 = .ok (.aload_n 0, 1) := by decide +kernel
theorem dX5_told_127 : decode cX5_told 127 = .ok (.getfield 13, 3) := by decide +kernel
theorem dX5_told_130 : decode cX5_told 130 = .ok (.iload_n 1, 1) := by decide +kernel
theorem dX5_told_131 : decode cX5_told 131 = .ok (.iaload, 1) := by decide +kernel
theorem dX5_told_132 : decode cX5_told 132 = .ok (.ifCond .ne 7, 3) := by decide +kernel
theorem dX5_told_135 : decode cX5_told 135 = .ok (.iconst 0, 1) := by decide +kernel
theorem dX5_told_136 : decode cX5_told 136 = .ok (.goto 12, 3) := by decide +kernel
theorem dX5_told_139 : decode cX5_told 139 = .ok (.aload_n 0, 1) := by decide +kernel
theorem dX5_told_140 : decode cX5_told 140 = .ok (.getfield 16, 3) := by decide +kernel
theorem dX5_told_143 : decode cX5_told 143 = .ok (.bipush 18, 2) := by decide +kernel
theorem dX5_told_145 : decode cX5_told 145 = .ok (.iload_n 1, 1) := by decide +kernel
theorem dX5_told_146 : decode cX5_told 146 = .ok (.imul, 1) := by decide +kernel
theorem dX5_told_147 : decode cX5_told 147 = .ok (.iaload, 1) := by decide +kernel
theorem dX5_told_148 : decode cX5_told 148 = .ok (.ireturn, 1) := by decide +kernel
theorem dX5_count_0 : decode cX5_count 0 = .ok (.iconst 0, 1) := by decide +kernel
theorem dX5_count_1 : decode cX5_count 1 = .ok (.istore_n 2, 1) := by decide +kernel
theorem dX5_count_2 : decode cX5_count 2 = .ok (.iconst 0, 1) := by decide +kernel
theorem dX5_count_3 : decode cX5_count 3 = .ok (.istore_n 3, 1) := by decide +kernel
theorem dX5_count_4 : decode cX5_count 4 = .ok (.iload_n 3, 1) := by decide +kernel
theorem dX5_count_5 : decode cX5_count 5 = .ok (.bipush 12, 2) := by decide +kernel
theorem dX5_count_7 : decode cX5_count 7 = .ok (.if_icmp .ge 39, 3) := by decide +kernel
theorem dX5_count_10 : decode cX5_count 10 = .ok (.iload_n 2, 1) := by decide +kernel
theorem dX5_count_11 : decode cX5_count 11 = .ok (.aload_n 0, 1) := by decide +kernel
theorem dX5_count_12 : decode cX5_count 12 = .ok (.getfield 13, 3) := by decide +kernel
theorem dX5_count_15 : decode cX5_count 15 = .ok (.iload_n 3, 1) := by decide +kernel
theorem dX5_count_16 : decode cX5_count 16 = .ok (.iaload, 1) := by decide +kernel
theorem dX5_count_17 : decode cX5_count 17 = .ok (.ifCond .ge 7, 3) := by decide +kernel
theorem dX5_count_20 : decode cX5_count 20 = .ok (.iconst 0, 1) := by decide +kernel
theorem dX5_count_21 : decode cX5_count 21 = .ok (.goto 17, 3) := by decide +kernel
theorem dX5_count_24 : decode cX5_count 24 = .ok (.iload_n 1, 1) := by decide +kernel
theorem dX5_count_25 : decode cX5_count 25 = .ok (.iconst 1, 1) := by decide +kernel
theorem dX5_count_26 : decode cX5_count 26 = .ok (.if_icmp .ne 7, 3) := by decide +kernel
theorem dX5_count_29 : decode cX5_count 29 = .ok (.iconst 1, 1) := by decide +kernel
theorem dX5_count_30 : decode cX5_count 30 = .ok (.goto 8, 3) := by decide +kernel
theorem dX5_count_33 : decode cX5_count 33 = .ok (.aload_n 0, 1) := by decide +kernel
theorem dX5_count_34 : decode cX5_count 34 = .ok (.iload_n 3, 1) := by decide +kernel
theorem dX5_count_35 : decode cX5_count 35 = .ok (.invokevirtual 84, 3) := by decide +kernel
theorem dX5_count_38 : decode cX5_count 38 = .ok (.iadd, 1) := by decide +kernel
theorem dX5_count_39 : decode cX5_count 39 = .ok (.istore_n 2, 1) := by decide +kernel
theorem dX5_count_40 : decode cX5_count 40 = .ok (.iinc 3 1, 3) := by decide +kernel
theorem dX5_count_43 : decode cX5_count 43 = .ok (.goto (-39), 3) := by decide +kernel
theorem dX5_count_46 : decode cX5_count 46 = .ok (.iload_n 1, 1) := by decide +kernel
theorem dX5_count_47 : decode cX5_count 47 = .ok (.ifCond .ne 10, 3) := by decide +kernel
theorem dX5_count_50 : decode cX5_count 50 = .ok (.aload_n 0, 1) := by decide +kernel
theorem dX5_count_51 : decode cX5_count 51 = .ok (.getfield 91, 3) := by decide +kernel
theorem dX5_count_54 : decode cX5_count 54 = .ok (.goto 17, 3) := by decide +kernel
theorem dX5_count_57 : decode cX5_count 57 = .ok (.iload_n 1, 1) := by decide +kernel
theorem dX5_count_58 : decode cX5_count 58 = .ok (.iconst 1, 1) := by decide +kernel
theorem dX5_count_59 : decode cX5_count 59 = .ok (.iconst 2, 1) := by decide +kernel
theorem dX5_count_60 : decode cX5_count 60 = .ok (.invokestatic 69, 3) := by decide +kernel
theorem dX5_count_63 : decode cX5_count 63 = .ok (.ifCond .eq 7, 3) := by decide +kernel
theorem dX5_count_66 : decode cX5_count 66 = .ok (.iload_n 2, 1) := by decide +kernel
theorem dX5_count_67 : decode cX5_count 67 = .ok (.goto 4, 3) := by decide +kernel
theorem dX5_count_70 : decode cX5_count 70 = .ok (.iconst (-1), 1) := by decide +kernel
theorem dX5_count_71 : decode cX5_count 71 = .ok (.ireturn, 1) := by decide +kernel
theorem dX5_finding_0 : decode cX5_finding 0 = .ok (.aload_n 0, 1) := by decide +kernel
theorem dX5_finding_1 : decode cX5_finding 1 = .ok (.getfield 66, 3) := by decide +kernel
theorem dX5_finding_4 : decode cX5_finding 4 = .ok (.ireturn, 1) := by decide +kernel
theorem dX5_findings_0 : decode cX5_findings 0 = .ok (.iload_n 1, 1) := by decide +kernel
theorem dX5_findings_1 : decode cX5_findings 1 = .ok (.iconst 1, 1) := by decide +kernel
theorem dX5_findings_2 : decode cX5_findings 2 = .ok (.iconst 5, 1) := by decide +kernel
theorem dX5_findings_3 : decode cX5_findings 3 = .ok (.invokestatic 69, 3) := by decide +kernel
theorem dX5_findings_6 : decode cX5_findings 6 = .ok (.ifCond .eq 12, 3) := by decide +kernel
theorem dX5_findings_9 : decode cX5_findings 9 = .ok (.aload_n 0, 1) := by decide +kernel
theorem dX5_findings_10 : decode cX5_findings 10 = .ok (.getfield 7, 3) := by decide +kernel
theorem dX5_findings_13 : decode cX5_findings 13 = .ok (.iload_n 1, 1) := by decide +kernel
theorem dX5_findings_14 : decode cX5_findings 14 = .ok (.iaload, 1) := by decide +kernel
theorem dX5_findings_15 : decode cX5_findings 15 = .ok (.goto 4, 3) := by decide +kernel
theorem dX5_findings_18 : decode cX5_findings 18 = .ok (.iconst (-1), 1) := by decide +kernel
theorem dX5_findings_19 : decode cX5_findings 19 = .ok (.ireturn, 1) := by decide +kernel
theorem dX5_digest_0 : decode cX5_digest 0 = .ok (.ldc2_w 167, 3) := by decide +kernel
theorem dX5_digest_3 : decode cX5_digest 3 = .ok (.aload_n 0, 1) := by decide +kernel
theorem dX5_digest_4 : decode cX5_digest 4 = .ok (.getfield 91, 3) := by decide +kernel
theorem dX5_digest_7 : decode cX5_digest 7 = .ok (.i2l, 1) := by decide +kernel
theorem dX5_digest_8 : decode cX5_digest 8 = .ok (.ladd, 1) := by decide +kernel
theorem dX5_digest_9 : decode cX5_digest 9 = .ok (.lstore_n 1, 1) := by decide +kernel
theorem dX5_digest_10 : decode cX5_digest 10 = .ok (.iconst 0, 1) := by decide +kernel
theorem dX5_digest_11 : decode cX5_digest 11 = .ok (.istore_n 3, 1) := by decide +kernel
theorem dX5_digest_12 : decode cX5_digest 12 = .ok (.iload_n 3, 1) := by decide +kernel
theorem dX5_digest_13 : decode cX5_digest 13 = .ok (.bipush 12, 2) := by decide +kernel
theorem dX5_digest_15 : decode cX5_digest 15 = .ok (.if_icmp .ge 76, 3) := by decide +kernel
theorem dX5_digest_18 : decode cX5_digest 18 = .ok (.ldc2_w 169, 3) := by decide +kernel
theorem dX5_digest_21 : decode cX5_digest 21 = .ok (.lload_n 1, 1) := by decide +kernel
theorem dX5_digest_22 : decode cX5_digest 22 = .ok (.lmul, 1) := by decide +kernel
theorem dX5_digest_23 : decode cX5_digest 23 = .ok (.aload_n 0, 1) := by decide +kernel
theorem dX5_digest_24 : decode cX5_digest 24 = .ok (.getfield 13, 3) := by decide +kernel
theorem dX5_digest_27 : decode cX5_digest 27 = .ok (.iload_n 3, 1) := by decide +kernel
theorem dX5_digest_28 : decode cX5_digest 28 = .ok (.iaload, 1) := by decide +kernel
theorem dX5_digest_29 : decode cX5_digest 29 = .ok (.ifCond .ge 7, 3) := by decide +kernel
theorem dX5_digest_32 : decode cX5_digest 32 = .ok (.iconst (-1), 1) := by decide +kernel
theorem dX5_digest_33 : decode cX5_digest 33 = .ok (.goto 9, 3) := by decide +kernel
theorem dX5_digest_36 : decode cX5_digest 36 = .ok (.aload_n 0, 1) := by decide +kernel
theorem dX5_digest_37 : decode cX5_digest 37 = .ok (.getfield 13, 3) := by decide +kernel
theorem dX5_digest_40 : decode cX5_digest 40 = .ok (.iload_n 3, 1) := by decide +kernel
theorem dX5_digest_41 : decode cX5_digest 41 = .ok (.iaload, 1) := by decide +kernel
theorem dX5_digest_42 : decode cX5_digest 42 = .ok (.i2l, 1) := by decide +kernel
theorem dX5_digest_43 : decode cX5_digest 43 = .ok (.ladd, 1) := by decide +kernel
theorem dX5_digest_44 : decode cX5_digest 44 = .ok (.lstore_n 1, 1) := by decide +kernel
theorem dX5_digest_45 : decode cX5_digest 45 = .ok (.iconst 0, 1) := by decide +kernel
theorem dX5_digest_46 : decode cX5_digest 46 = .ok (.istore 4, 2) := by decide +kernel
theorem dX5_digest_48 : decode cX5_digest 48 = .ok (.iload 4, 2) := by decide +kernel
theorem dX5_digest_50 : decode cX5_digest 50 = .ok (.aload_n 0, 1) := by decide +kernel
theorem dX5_digest_51 : decode cX5_digest 51 = .ok (.getfield 13, 3) := by decide +kernel
theorem dX5_digest_54 : decode cX5_digest 54 = .ok (.iload_n 3, 1) := by decide +kernel
theorem dX5_digest_55 : decode cX5_digest 55 = .ok (.iaload, 1) := by decide +kernel
theorem dX5_digest_56 : decode cX5_digest 56 = .ok (.if_icmp .ge 29, 3) := by decide +kernel
theorem dX5_digest_59 : decode cX5_digest 59 = .ok (.ldc2_w 169, 3) := by decide +kernel
theorem dX5_digest_62 : decode cX5_digest 62 = .ok (.lload_n 1, 1) := by decide +kernel
theorem dX5_digest_63 : decode cX5_digest 63 = .ok (.lmul, 1) := by decide +kernel
theorem dX5_digest_64 : decode cX5_digest 64 = .ok (.aload_n 0, 1) := by decide +kernel
theorem dX5_digest_65 : decode cX5_digest 65 = .ok (.getfield 16, 3) := by decide +kernel
theorem dX5_digest_68 : decode cX5_digest 68 = .ok (.bipush 18, 2) := by decide +kernel
theorem dX5_digest_70 : decode cX5_digest 70 = .ok (.iload_n 3, 1) := by decide +kernel
theorem dX5_digest_71 : decode cX5_digest 71 = .ok (.imul, 1) := by decide +kernel
theorem dX5_digest_72 : decode cX5_digest 72 = .ok (.iload 4, 2) := by decide +kernel
theorem dX5_digest_74 : decode cX5_digest 74 = .ok (.iadd, 1) := by decide +kernel
theorem dX5_digest_75 : decode cX5_digest 75 = .ok (.iaload, 1) := by decide +kernel
theorem dX5_digest_76 : decode cX5_digest 76 = .ok (.i2l, 1) := by decide +kernel
theorem dX5_digest_77 : decode cX5_digest 77 = .ok (.ladd, 1) := by decide +kernel
theorem dX5_digest_78 : decode cX5_digest 78 = .ok (.lstore_n 1, 1) := by decide +kernel
theorem dX5_digest_79 : decode cX5_digest 79 = .ok (.iinc 4 1, 3) := by decide +kernel
theorem dX5_digest_82 : decode cX5_digest 82 = .ok (.goto (-34), 3) := by decide +kernel
theorem dX5_digest_85 : decode cX5_digest 85 = .ok (.iinc 3 1, 3) := by decide +kernel
theorem dX5_digest_88 : decode cX5_digest 88 = .ok (.goto (-76), 3) := by decide +kernel
theorem dX5_digest_91 : decode cX5_digest 91 = .ok (.lload_n 1, 1) := by decide +kernel
theorem dX5_digest_92 : decode cX5_digest 92 = .ok (.lreturn, 1) := by decide +kernel
