theorem dX0_init_0 : decode cX0_init 0 = .ok (.aload_n 0, 1) := by decide +kernel
theorem dX0_init_1 : decode cX0_init 1 = .ok (.invokespecial 3, 3) := by decide +kernel
theorem dX0_init_4 : decode cX0_init 4 = .ok (.aload_n 0, 1) := by decide +kernel
theorem dX0_init_5 : decode cX0_init 5 = .ok (.iload_n 1, 1) := by decide +kernel
theorem dX0_init_6 : decode cX0_init 6 = .ok (.iconst 0, 1) := by decide +kernel
theorem dX0_init_7 : decode cX0_init 7 = .ok (.invokestatic 9, 3) := by decide +kernel
theorem dX0_init_10 : decode cX0_init 10 = .ok (.putfield 15, 3) := by decide +kernel
theorem dX0_init_13 : decode cX0_init 13 = .ok (.aload_n 0, 1) := by decide +kernel
theorem dX0_init_14 : decode cX0_init 14 = .ok (.aload_n 0, 1) := by decide +kernel
theorem dX0_init_15 : decode cX0_init 15 = .ok (.getfield 15, 3) := by decide +kernel
theorem dX0_init_18 : decode cX0_init 18 = .ok (.newarray .int, 2) := by decide +kernel
theorem dX0_init_20 : decode cX0_init 20 = .ok (.putfield 21, 3) := by decide +kernel
theorem dX0_init_23 : decode cX0_init 23 = .ok (.aload_n 0, 1) := by decide +kernel
theorem dX0_init_24 : decode cX0_init 24 = .ok (.aload_n 0, 1) := by decide +kernel
theorem dX0_init_25 : decode cX0_init 25 = .ok (.getfield 15, 3) := by decide +kernel
theorem dX0_init_28 : decode cX0_init 28 = .ok (.newarray .int, 2) := by decide +kernel
theorem dX0_init_30 : decode cX0_init 30 = .ok (.putfield 25, 3) := by decide +kernel
theorem dX0_init_33 : decode cX0_init 33 = .ok (.aload_n 0, 1) := by decide +kernel
theorem dX0_init_34 : decode cX0_init 34 = .ok (.aload_n 0, 1) := by decide +kernel
theorem dX0_init_35 : decode cX0_init 35 = .ok (.getfield 15, 3) := by decide +kernel
theorem dX0_init_38 : decode cX0_init 38 = .ok (.newarray .int, 2) := by decide +kernel
theorem dX0_init_40 : decode cX0_init 40 = .ok (.putfield 28, 3) := by decide +kernel
theorem dX0_init_43 : decode cX0_init 43 = .ok (.aload_n 0, 1) := by decide +kernel
theorem dX0_init_44 : decode cX0_init 44 = .ok (.aload_n 0, 1) := by decide +kernel
theorem dX0_init_45 : decode cX0_init 45 = .ok (.getfield 15, 3) := by decide +kernel
theorem dX0_init_48 : decode cX0_init 48 = .ok (.newarray .int, 2) := by decide +kernel
theorem dX0_init_50 : decode cX0_init 50 = .ok (.putfield 31, 3) := by decide +kernel
theorem dX0_init_53 : decode cX0_init 53 = .ok (.aload_n 0, 1) := by decide +kernel
theorem dX0_init_54 : decode cX0_init 54 = .ok (.aload_n 0, 1) := by decide +kernel
theorem dX0_init_55 : decode cX0_init 55 = .ok (.getfield 15, 3) := by decide +kernel
theorem dX0_init_58 : decode cX0_init 58 = .ok (.newarray .int, 2) := by decide +kernel
theorem dX0_init_60 : decode cX0_init 60 = .ok (.putfield 34, 3) := by decide +kernel
theorem dX0_init_63 : decode cX0_init 63 = .ok (.return_, 1) := by decide +kernel
theorem dX0_has_0 : decode cX0_has 0 = .ok (.iload_n 1, 1) := by decide +kernel
theorem dX0_has_1 : decode cX0_has 1 = .ok (.ifCond .lt 15, 3) := by decide +kernel
theorem dX0_has_4 : decode cX0_has 4 = .ok (.iload_n 1, 1) := by decide +kernel
theorem dX0_has_5 : decode cX0_has 5 = .ok (.aload_n 0, 1) := by decide +kernel
theorem dX0_has_6 : decode cX0_has 6 = .ok (.getfield 15, 3) := by decide +kernel
theorem dX0_has_9 : decode cX0_has 9 = .ok (.if_icmp .ge 7, 3) := by decide +kernel
theorem dX0_has_12 : decode cX0_has 12 = .ok (.iconst 1, 1) := by decide +kernel
theorem dX0_has_13 : decode cX0_has 13 = .ok (.goto 4, 3) := by decide +kernel
theorem dX0_has_16 : decode cX0_has 16 = .ok (.iconst 0, 1) := by decide +kernel
theorem dX0_has_17 : decode cX0_has 17 = .ok (.ireturn, 1) := by decide +kernel
theorem dX0_link_0 : decode cX0_link 0 = .ok (.aload_n 0, 1) := by decide +kernel
theorem dX0_link_1 : decode cX0_link 1 = .ok (.iload_n 1, 1) := by decide +kernel
theorem dX0_link_2 : decode cX0_link 2 = .ok (.invokevirtual 37, 3) := by decide +kernel
theorem dX0_link_5 : decode cX0_link 5 = .ok (.ifCond .eq 28, 3) := by decide +kernel
theorem dX0_link_8 : decode cX0_link 8 = .ok (.aload_n 0, 1) := by decide +kernel
theorem dX0_link_9 : decode cX0_link 9 = .ok (.iload_n 2, 1) := by decide +kernel
theorem dX0_link_10 : decode cX0_link 10 = .ok (.invokevirtual 37, 3) := by decide +kernel
theorem dX0_link_13 : decode cX0_link 13 = .ok (.ifCond .eq 20, 3) := by decide +kernel
theorem dX0_link_16 : decode cX0_link 16 = .ok (.aload_n 0, 1) := by decide +kernel
theorem dX0_link_17 : decode cX0_link 17 = .ok (.getfield 21, 3) := by decide +kernel
theorem dX0_link_20 : decode cX0_link 20 = .ok (.iload_n 1, 1) := by decide +kernel
theorem dX0_link_21 : decode cX0_link 21 = .ok (.iload_n 2, 1) := by decide +kernel
theorem dX0_link_22 : decode cX0_link 22 = .ok (.iastore, 1) := by decide +kernel
theorem dX0_link_23 : decode cX0_link 23 = .ok (.aload_n 0, 1) := by decide +kernel
theorem dX0_link_24 : decode cX0_link 24 = .ok (.getfield 25, 3) := by decide +kernel
theorem dX0_link_27 : decode cX0_link 27 = .ok (.iload_n 2, 1) := by decide +kernel
theorem dX0_link_28 : decode cX0_link 28 = .ok (.dup2, 1) := by decide +kernel
theorem dX0_link_29 : decode cX0_link 29 = .ok (.iaload, 1) := by decide +kernel
theorem dX0_link_30 : decode cX0_link 30 = .ok (.iconst 1, 1) := by decide +kernel
theorem dX0_link_31 : decode cX0_link 31 = .ok (.iadd, 1) := by decide +kernel
theorem dX0_link_32 : decode cX0_link 32 = .ok (.iastore, 1) := by decide +kernel
theorem dX0_link_33 : decode cX0_link 33 = .ok (.return_, 1) := by decide +kernel
theorem dX0_draw_0 : decode cX0_draw 0 = .ok (.aload_n 0, 1) := by decide +kernel
theorem dX0_draw_1 : decode cX0_draw 1 = .ok (.getfield 25, 3) := by decide +kernel
theorem dX0_draw_4 : decode cX0_draw 4 = .ok (.invokevirtual 41, 3) := by decide +kernel
theorem dX0_draw_7 : decode cX0_draw 7 = .ok (.checkcast 42, 3) := by decide +kernel
theorem dX0_draw_10 : decode cX0_draw 10 = .ok (.astore_n 1, 1) := by decide +kernel
theorem dX0_draw_11 : decode cX0_draw 11 = .ok (.aload_n 0, 1) := by decide +kernel
theorem dX0_draw_12 : decode cX0_draw 12 = .ok (.getfield 15, 3) := by decide +kernel
theorem dX0_draw_15 : decode cX0_draw 15 = .ok (.newarray .int, 2) := by decide +kernel
theorem dX0_draw_17 : decode cX0_draw 17 = .ok (.astore_n 2, 1) := by decide +kernel
theorem dX0_draw_18 : decode cX0_draw 18 = .ok (.aload_n 0, 1) := by decide +kernel
theorem dX0_draw_19 : decode cX0_draw 19 = .ok (.aload_n 1, 1) := by decide +kernel
theorem dX0_draw_20 : decode cX0_draw 20 = .ok (.aload_n 2, 1) := by decide +kernel
theorem dX0_draw_21 : decode cX0_draw 21 = .ok (.invokevirtual 46, 3) := by decide +kernel
theorem dX0_draw_24 : decode cX0_draw 24 = .ok (.istore_n 3, 1) := by decide +kernel
theorem dX0_draw_25 : decode cX0_draw 25 = .ok (.iconst 0, 1) := by decide +kernel
theorem dX0_draw_26 : decode cX0_draw 26 = .ok (.istore 4, 2) := by decide +kernel
theorem dX0_draw_28 : decode cX0_draw 28 = .ok (.iload 4, 2) := by decide +kernel
theorem dX0_draw_30 : decode cX0_draw 30 = .ok (.aload_n 0, 1) := by decide +kernel
theorem dX0_draw_31 : decode cX0_draw 31 = .ok (.getfield 15, 3) := by decide +kernel
theorem dX0_draw_34 : decode cX0_draw 34 = .ok (.if_icmp .ge 47, 3) := by decide +kernel
theorem dX0_draw_37 : decode cX0_draw 37 = .ok (.aload_n 0, 1) := by decide +kernel
theorem dX0_draw_38 : decode cX0_draw 38 = .ok (.dup, 1) := by decide +kernel
theorem dX0_draw_39 : decode cX0_draw 39 = .ok (.getfield 50, 3) := by decide +kernel
theorem dX0_draw_42 : decode cX0_draw 42 = .ok (.aload_n 0, 1) := by decide +kernel
theorem dX0_draw_43 : decode cX0_draw 43 = .ok (.getfield 25, 3) := by decide +kernel
theorem dX0_draw_46 : decode cX0_draw 46 = .ok (.iload 4, 2) := by decide +kernel
theorem dX0_draw_48 : decode cX0_draw 48 = .ok (.iaload, 1) := by decide +kernel
theorem dX0_draw_49 : decode cX0_draw 49 = .ok (.ifCond .ne 7, 3) := by decide +kernel
theorem dX0_draw_52 : decode cX0_draw 52 = .ok (.iconst 1, 1) := by decide +kernel
theorem dX0_draw_53 : decode cX0_draw 53 = .ok (.goto 4, 3) := by decide +kernel
theorem dX0_draw_56 : decode cX0_draw 56 = .ok (.iconst 0, 1) := by decide +kernel
theorem dX0_draw_57 : decode cX0_draw 57 = .ok (.iadd, 1) := by decide +kernel
theorem dX0_draw_58 : decode cX0_draw 58 = .ok (.putfield 50, 3) := by decide +kernel
theorem dX0_draw_61 : decode cX0_draw 61 = .ok (.aload_n 1, 1) := by decide +kernel
theorem dX0_draw_62 : decode cX0_draw 62 = .ok (.iload 4, 2) := by decide +kernel
theorem dX0_draw_64 : decode cX0_draw 64 = .ok (.iaload, 1) := by decide +kernel
theorem dX0_draw_65 : decode cX0_draw 65 = .ok (.ifCond .le 10, 3) := by decide +kernel
theorem dX0_draw_68 : decode cX0_draw 68 = .ok (.aload_n 0, 1) := by decide +kernel
theorem dX0_draw_69 : decode cX0_draw 69 = .ok (.iload 4, 2) := by decide +kernel
theorem dX0_draw_71 : decode cX0_draw 71 = .ok (.aload_n 1, 1) := by decide +kernel
theorem dX0_draw_72 : decode cX0_draw 72 = .ok (.invokevirtual 53, 3) := by decide +kernel
theorem dX0_draw_75 : decode cX0_draw 75 = .ok (.iinc 4 1, 3) := by decide +kernel
theorem dX0_draw_78 : decode cX0_draw 78 = .ok (.goto (-50), 3) := by decide +kernel
theorem dX0_draw_81 : decode cX0_draw 81 = .ok (.iload_n 3, 1) := by decide +kernel
theorem dX0_draw_82 : decode cX0_draw 82 = .ok (.iconst 1, 1) := by decide +kernel
theorem dX0_draw_83 : decode cX0_draw 83 = .ok (.isub, 1) := by decide +kernel
theorem dX0_draw_84 : decode cX0_draw 84 = .ok (.istore 4, 2) := by decide +kernel
theorem dX0_draw_86 : decode cX0_draw 86 = .ok (.iload 4, 2) := by decide +kernel
theorem dX0_draw_88 : decode cX0_draw 88 = .ok (.ifCond .lt 17, 3) := by decide +kernel
theorem dX0_draw_91 : decode cX0_draw 91 = .ok (.aload_n 0, 1) := by decide +kernel
theorem dX0_draw_92 : decode cX0_draw 92 = .ok (.aload_n 2, 1) := by decide +kernel
theorem dX0_draw_93 : decode cX0_draw 93 = .ok (.iload 4, 2) := by decide +kernel
theorem dX0_draw_95 : decode cX0_draw 95 = .ok (.iaload, 1) := by decide +kernel
theorem dX0_draw_96 : decode cX0_draw 96 = .ok (.invokevirtual 57, 3) := by decide +kernel
theorem dX0_draw_99 : decode cX0_draw 99 = .ok (.iinc 4 (-1), 3) := by decide +kernel
theorem dX0_draw_102 : decode cX0_draw 102 = .ok (.goto (-16), 3) := by decide +kernel
theorem dX0_draw_105 : decode cX0_draw 105 = .ok (.return_, 1) := by decide +kernel
theorem dX0_peel_0 : decode cX0_peel 0 = .ok (.iconst 0, 1) := by decide +kernel
theorem dX0_peel_1 : decode cX0_peel 1 = .ok (.istore_n 3, 1) := by decide +kernel
theorem dX0_peel_2 : decode cX0_peel 2 = .ok (.iconst 0, 1) := by decide +kernel
theorem dX0_peel_3 : decode cX0_peel 3 = .ok (.istore 4, 2) := by decide +kernel
theorem dX0_peel_5 : decode cX0_peel 5 = .ok (.iload 4, 2) := by decide +kernel
theorem dX0_peel_7 : decode cX0_peel 7 = .ok (.aload_n 0, 1) := by decide +kernel
theorem dX0_peel_8 : decode cX0_peel 8 = .ok (.getfield 15, 3) := by decide +kernel
theorem dX0_peel_11 : decode cX0_peel 11 = .ok (.if_icmp .ge 24, 3) := by decide +kernel
theorem dX0_peel_14 : decode cX0_peel 14 = .ok (.aload_n 1, 1) := by decide +kernel
theorem dX0_peel_15 : decode cX0_peel 15 = .ok (.iload 4, 2) := by decide +kernel
theorem dX0_peel_17 : decode cX0_peel 17 = .ok (.iaload, 1) := by decide +kernel
theorem dX0_peel_18 : decode cX0_peel 18 = .ok (.ifCond .ne 11, 3) := by decide +kernel
theorem dX0_peel_21 : decode cX0_peel 21 = .ok (.aload_n 2, 1) := by decide +kernel
theorem dX0_peel_22 : decode cX0_peel 22 = .ok (.iload_n 3, 1) := by decide +kernel
theorem dX0_peel_23 : decode cX0_peel 23 = .ok (.iload 4, 2) := by decide +kernel
theorem dX0_peel_25 : decode cX0_peel 25 = .ok (.iastore, 1) := by decide +kernel
theorem dX0_peel_26 : decode cX0_peel 26 = .ok (.iinc 3 1, 3) := by decide +kernel
theorem dX0_peel_29 : decode cX0_peel 29 = .ok (.iinc 4 1, 3) := by decide +kernel
theorem dX0_peel_32 : decode cX0_peel 32 = .ok (.goto (-27), 3) := by decide +kernel
theorem dX0_peel_35 : decode cX0_peel 35 = .ok (.iconst 0, 1) := by decide +kernel
theorem dX0_peel_36 : decode cX0_peel 36 = .ok (.istore 4, 2) := by decide +kernel
theorem dX0_peel_38 : decode cX0_peel 38 = .ok (.iload 4, 2) := by decide +kernel
theorem dX0_peel_40 : decode cX0_peel 40 = .ok (.iload_n 3, 1) := by decide +kernel
theorem dX0_peel_41 : decode cX0_peel 41 = .ok (.if_icmp .ge 60, 3) := by decide +kernel
theorem dX0_peel_44 : decode cX0_peel 44 = .ok (.iload 4, 2) := by decide +kernel
theorem dX0_peel_46 : decode cX0_peel 46 = .ok (.aload_n 0, 1) := by decide +kernel
theorem dX0_peel_47 : decode cX0_peel 47 = .ok (.getfield 15, 3) := by decide +kernel
theorem dX0_peel_50 : decode cX0_peel 50 = .ok (.if_icmp .ge 51, 3) := by decide +kernel
theorem dX0_peel_53 : decode cX0_peel 53 = .ok (.aload_n 0, 1) := by decide +kernel
theorem dX0_peel_54 : decode cX0_peel 54 = .ok (.getfield 21, 3) := by decide +kernel
theorem dX0_peel_57 : decode cX0_peel 57 = .ok (.aload_n 2, 1) := by decide +kernel
theorem dX0_peel_58 : decode cX0_peel 58 = .ok (.iload 4, 2) := by decide +kernel
theorem dX0_peel_60 : decode cX0_peel 60 = .ok (.iaload, 1) := by decide +kernel
theorem dX0_peel_61 : decode cX0_peel 61 = .ok (.iaload, 1) := by decide +kernel
theorem dX0_peel_62 : decode cX0_peel 62 = .ok (.istore 5, 2) := by decide +kernel
theorem dX0_peel_64 : decode cX0_peel 64 = .ok (.aload_n 1, 1) := by decide +kernel
theorem dX0_peel_65 : decode cX0_peel 65 = .ok (.iload 5, 2) := by decide +kernel
theorem dX0_peel_67 : decode cX0_peel 67 = .ok (.dup2, 1) := by decide +kernel
theorem dX0_peel_68 : decode cX0_peel 68 = .ok (.iaload, 1) := by decide +kernel
theorem dX0_peel_69 : decode cX0_peel 69 = .ok (.iconst 1, 1) := by decide +kernel
theorem dX0_peel_70 : decode cX0_peel 70 = .ok (.isub, 1) := by decide +kernel
theorem dX0_peel_71 : decode cX0_peel 71 = .ok (.iastore, 1) := by decide +kernel
theorem dX0_peel_72 : decode cX0_peel 72 = .ok (.aload_n 1, 1) := by decide +kernel
theorem dX0_peel_73 : decode cX0_peel 73 = .ok (.iload 5, 2) := by decide +kernel
theorem dX0_peel_75 : decode cX0_peel 75 = .ok (.iaload, 1) := by decide +kernel
theorem dX0_peel_76 : decode cX0_peel 76 = .ok (.ifCond .ne 19, 3) := by decide +kernel
theorem dX0_peel_79 : decode cX0_peel 79 = .ok (.iload_n 3, 1) := by decide +kernel
theorem dX0_peel_80 : decode cX0_peel 80 = .ok (.aload_n 0, 1) := by decide +kernel
theorem dX0_peel_81 : decode cX0_peel 81 = .ok (.getfield 15, 3) := by decide +kernel
theorem dX0_peel_84 : decode cX0_peel 84 = .ok (.if_icmp .ge 11, 3) := by decide +kernel
theorem dX0_peel_87 : decode cX0_peel 87 = .ok (.aload_n 2, 1) := by decide +kernel
theorem dX0_peel_88 : decode cX0_peel 88 = .ok (.iload_n 3, 1) := by decide +kernel
theorem dX0_peel_89 : decode cX0_peel 89 = .ok (.iload 5, 2) := by decide +kernel
theorem dX0_peel_91 : decode cX0_peel 91 = .ok (.iastore, 1) := by decide +kernel
theorem dX0_peel_92 : decode cX0_peel 92 = .ok (.iinc 3 1, 3) := by decide +kernel
theorem dX0_peel_95 : decode cX0_peel 95 = .ok (.iinc 4 1, 3) := by decide +kernel
theorem dX0_peel_98 : decode cX0_peel 98 = .ok (.goto (-60), 3) := by decide +kernel
theorem dX0_peel_101 : decode cX0_peel 101 = .ok (.iload_n 3, 1) := by decide +kernel
theorem dX0_peel_102 : decode cX0_peel 102 = .ok (.ireturn, 1) := by decide +kernel
theorem dX0_drawRing_0 : decode cX0_drawRing 0 = .ok (.iconst 0, 1) := by decide +kernel
theorem dX0_drawRing_1 : decode cX0_drawRing 1 = .ok (.istore_n 3, 1) := by decide +kernel
theorem dX0_drawRing_2 : decode cX0_drawRing 2 = .ok (.iload_n 1, 1) := by decide +kernel
theorem dX0_drawRing_3 : decode cX0_drawRing 3 = .ok (.istore 4, 2) := by decide +kernel
theorem dX0_drawRing_5 : decode cX0_drawRing 5 = .ok (.iload_n 3, 1) := by decide +kernel
theorem dX0_drawRing_6 : decode cX0_drawRing 6 = .ok (.aload_n 0, 1) := by decide +kernel
theorem dX0_drawRing_7 : decode cX0_drawRing 7 = .ok (.getfield 15, 3) := by decide +kernel
theorem dX0_drawRing_10 : decode cX0_drawRing 10 = .ok (.if_icmp .ge 38, 3) := by decide +kernel
theorem dX0_drawRing_13 : decode cX0_drawRing 13 = .ok (.aload_n 2, 1) := by decide +kernel
theorem dX0_drawRing_14 : decode cX0_drawRing 14 = .ok (.iload 4, 2) := by decide +kernel
theorem dX0_drawRing_16 : decode cX0_drawRing 16 = .ok (.iaload, 1) := by decide +kernel
theorem dX0_drawRing_17 : decode cX0_drawRing 17 = .ok (.ifCond .le 31, 3) := by decide +kernel
theorem dX0_drawRing_20 : decode cX0_drawRing 20 = .ok (.aload_n 2, 1) := by decide +kernel
theorem dX0_drawRing_21 : decode cX0_drawRing 21 = .ok (.iload 4, 2) := by decide +kernel
theorem dX0_drawRing_23 : decode cX0_drawRing 23 = .ok (.iconst 0, 1) := by decide +kernel
theorem dX0_drawRing_24 : decode cX0_drawRing 24 = .ok (.iastore, 1) := by decide +kernel
theorem dX0_drawRing_25 : decode cX0_drawRing 25 = .ok (.aload_n 0, 1) := by decide +kernel
theorem dX0_drawRing_26 : decode cX0_drawRing 26 = .ok (.getfield 34, 3) := by decide +kernel
theorem dX0_drawRing_29 : decode cX0_drawRing 29 = .ok (.iload 4, 2) := by decide +kernel
theorem dX0_drawRing_31 : decode cX0_drawRing 31 = .ok (.iload_n 1, 1) := by decide +kernel
theorem dX0_drawRing_32 : decode cX0_drawRing 32 = .ok (.iastore, 1) := by decide +kernel
theorem dX0_drawRing_33 : decode cX0_drawRing 33 = .ok (.iinc 3 1, 3) := by decide +kernel
theorem dX0_drawRing_36 : decode cX0_drawRing 36 = .ok (.aload_n 0, 1) := by decide +kernel
theorem dX0_drawRing_37 : decode cX0_drawRing 37 = .ok (.getfield 21, 3) := by decide +kernel
theorem dX0_drawRing_40 : decode cX0_drawRing 40 = .ok (.iload 4, 2) := by decide +kernel
theorem dX0_drawRing_42 : decode cX0_drawRing 42 = .ok (.iaload, 1) := by decide +kernel
theorem dX0_drawRing_43 : decode cX0_drawRing 43 = .ok (.istore 4, 2) := by decide +kernel
theorem dX0_drawRing_45 : decode cX0_drawRing 45 = .ok (.goto (-40), 3) := by decide +kernel
theorem dX0_drawRing_48 : decode cX0_drawRing 48 = .ok (.iconst 0, 1) := by decide +kernel
theorem dX0_drawRing_49 : decode cX0_drawRing 49 = .ok (.istore 5, 2) := by decide +kernel
theorem dX0_drawRing_51 : decode cX0_drawRing 51 = .ok (.iload 5, 2) := by decide +kernel
theorem dX0_drawRing_53 : decode cX0_drawRing 53 = .ok (.iload_n 3, 1) := by decide +kernel
theorem dX0_drawRing_54 : decode cX0_drawRing 54 = .ok (.if_icmp .ge 26, 3) := by decide +kernel
theorem dX0_drawRing_57 : decode cX0_drawRing 57 = .ok (.aload_n 0, 1) := by decide +kernel
theorem dX0_drawRing_58 : decode cX0_drawRing 58 = .ok (.getfield 31, 3) := by decide +kernel
theorem dX0_drawRing_61 : decode cX0_drawRing 61 = .ok (.iload 4, 2) := by decide +kernel
theorem dX0_drawRing_63 : decode cX0_drawRing 63 = .ok (.iload_n 3, 1) := by decide +kernel
theorem dX0_drawRing_64 : decode cX0_drawRing 64 = .ok (.iastore, 1) := by decide +kernel
theorem dX0_drawRing_65 : decode cX0_drawRing 65 = .ok (.aload_n 0, 1) := by decide +kernel
theorem dX0_drawRing_66 : decode cX0_drawRing 66 = .ok (.getfield 21, 3) := by decide +kernel
theorem dX0_drawRing_69 : decode cX0_drawRing 69 = .ok (.iload 4, 2) := by decide +kernel
theorem dX0_drawRing_71 : decode cX0_drawRing 71 = .ok (.iaload, 1) := by decide +kernel
theorem dX0_drawRing_72 : decode cX0_drawRing 72 = .ok (.istore 4, 2) := by decide +kernel
theorem dX0_drawRing_74 : decode cX0_drawRing 74 = .ok (.iinc 5 1, 3) := by decide +kernel
theorem dX0_drawRing_77 : decode cX0_drawRing 77 = .ok (.goto (-26), 3) := by decide +kernel
theorem dX0_drawRing_80 : decode cX0_drawRing 80 = .ok (.aload_n 0, 1) := by decide +kernel
theorem dX0_drawRing_81 : decode cX0_drawRing 81 = .ok (.dup, 1) := by decide +kernel
theorem dX0_drawRing_82 : decode cX0_drawRing 82 = .ok (.getfield 61, 3) := by decide +kernel
theorem dX0_drawRing_85 : decode cX0_drawRing 85 = .ok (.iconst 1, 1) := by decide +kernel
theorem dX0_drawRing_86 : decode cX0_drawRing 86 = .ok (.iadd, 1) := by decide +kernel
theorem dX0_drawRing_87 : decode cX0_drawRing 87 = .ok (.putfield 61, 3) := by decide +kernel
theorem dX0_drawRing_90 : decode cX0_drawRing 90 = .ok (.aload_n 0, 1) := by decide +kernel
theorem dX0_drawRing_91 : decode cX0_drawRing 91 = .ok (.dup, 1) := by decide +kernel
theorem dX0_drawRing_92 : decode cX0_drawRing 92 = .ok (.getfield 64, 3) := by decide +kernel
theorem dX0_drawRing_95 : decode cX0_drawRing 95 = .ok (.iload_n 3, 1) := by decide +kernel
theorem dX0_drawRing_96 : decode cX0_drawRing 96 = .ok (.iadd, 1) := by decide +kernel
theorem dX0_drawRing_97 : decode cX0_drawRing 97 = .ok (.putfield 64, 3) := by decide +kernel
theorem dX0_drawRing_100 : decode cX0_drawRing 100 = .ok (.aload_n 0, 1) := by decide +kernel
theorem dX0_drawRing_101 : decode cX0_drawRing 101 = .ok (.aload_n 0, 1) := by decide +kernel
theorem dX0_drawRing_102 : decode cX0_drawRing 102 = .ok (.getfield 67, 3) := by decide +kernel
theorem dX0_drawRing_105 : decode cX0_drawRing 105 = .ok (.iload_n 3, 1) := by decide +kernel
theorem dX0_drawRing_106 : decode cX0_drawRing 106 = .ok (.invokestatic 9, 3) := by decide +kernel
theorem dX0_drawRing_109 : decode cX0_drawRing 109 = .ok (.putfield 67, 3) := by decide +kernel
theorem dX0_drawRing_112 : decode cX0_drawRing 112 = .ok (.return_, 1) := by decide +kernel
theorem dX0_drawTail_0 : decode cX0_drawTail 0 = .ok (.aload_n 0, 1) := by decide +kernel
theorem dX0_drawTail_1 : decode cX0_drawTail 1 = .ok (.getfield 21, 3) := by decide +kernel
theorem dX0_drawTail_4 : decode cX0_drawTail 4 = .ok (.iload_n 1, 1) := by decide +kernel
theorem dX0_drawTail_5 : decode cX0_drawTail 5 = .ok (.iaload, 1) := by decide +kernel
theorem dX0_drawTail_6 : decode cX0_drawTail 6 = .ok (.istore_n 2, 1) := by decide +kernel
theorem dX0_drawTail_7 : decode cX0_drawTail 7 = .ok (.aload_n 0, 1) := by decide +kernel
theorem dX0_drawTail_8 : decode cX0_drawTail 8 = .ok (.getfield 28, 3) := by decide +kernel
theorem dX0_drawTail_11 : decode cX0_drawTail 11 = .ok (.iload_n 1, 1) := by decide +kernel
theorem dX0_drawTail_12 : decode cX0_drawTail 12 = .ok (.aload_n 0, 1) := by decide +kernel
theorem dX0_drawTail_13 : decode cX0_drawTail 13 = .ok (.getfield 28, 3) := by decide +kernel
theorem dX0_drawTail_16 : decode cX0_drawTail 16 = .ok (.iload_n 2, 1) := by decide +kernel
theorem dX0_drawTail_17 : decode cX0_drawTail 17 = .ok (.iaload, 1) := by decide +kernel
theorem dX0_drawTail_18 : decode cX0_drawTail 18 = .ok (.iconst 1, 1) := by decide +kernel
theorem dX0_drawTail_19 : decode cX0_drawTail 19 = .ok (.iadd, 1) := by decide +kernel
theorem dX0_drawTail_20 : decode cX0_drawTail 20 = .ok (.iastore, 1) := by decide +kernel
theorem dX0_drawTail_21 : decode cX0_drawTail 21 = .ok (.aload_n 0, 1) := by decide +kernel
theorem dX0_drawTail_22 : decode cX0_drawTail 22 = .ok (.getfield 31, 3) := by decide +kernel
theorem dX0_drawTail_25 : decode cX0_drawTail 25 = .ok (.iload_n 1, 1) := by decide +kernel
theorem dX0_drawTail_26 : decode cX0_drawTail 26 = .ok (.aload_n 0, 1) := by decide +kernel
theorem dX0_drawTail_27 : decode cX0_drawTail 27 = .ok (.getfield 31, 3) := by decide +kernel
theorem dX0_drawTail_30 : decode cX0_drawTail 30 = .ok (.iload_n 2, 1) := by decide +kernel
theorem dX0_drawTail_31 : decode cX0_drawTail 31 = .ok (.iaload, 1) := by decide +kernel
theorem dX0_drawTail_32 : decode cX0_drawTail 32 = .ok (.iastore, 1) := by decide +kernel
theorem dX0_drawTail_33 : decode cX0_drawTail 33 = .ok (.aload_n 0, 1) := by decide +kernel
theorem dX0_drawTail_34 : decode cX0_drawTail 34 = .ok (.getfield 34, 3) := by decide +kernel
theorem dX0_drawTail_37 : decode cX0_drawTail 37 = .ok (.iload_n 1, 1) := by decide +kernel
theorem dX0_drawTail_38 : decode cX0_drawTail 38 = .ok (.aload_n 0, 1) := by decide +kernel
theorem dX0_drawTail_39 : decode cX0_drawTail 39 = .ok (.getfield 34, 3) := by decide +kernel
theorem dX0_drawTail_42 : decode cX0_drawTail 42 = .ok (.iload_n 2, 1) := by decide +kernel
theorem dX0_drawTail_43 : decode cX0_drawTail 43 = .ok (.iaload, 1) := by decide +kernel
theorem dX0_drawTail_44 : decode cX0_drawTail 44 = .ok (.iastore, 1) := by decide +kernel
theorem dX0_drawTail_45 : decode cX0_drawTail 45 = .ok (.aload_n 0, 1) := by decide +kernel
theorem dX0_drawTail_46 : decode cX0_drawTail 46 = .ok (.aload_n 0, 1) := by decide +kernel
theorem dX0_drawTail_47 : decode cX0_drawTail 47 = .ok (.getfield 70, 3) := by decide +kernel
theorem dX0_drawTail_50 : decode cX0_drawTail 50 = .ok (.aload_n 0, 1) := by decide +kernel
theorem dX0_drawTail_51 : decode cX0_drawTail 51 = .ok (.getfield 28, 3) := by decide +kernel
theorem dX0_drawTail_54 : decode cX0_drawTail 54 = .ok (.iload_n 1, 1) := by decide +kernel
theorem dX0_drawTail_55 : decode cX0_drawTail 55 = .ok (.iaload, 1) := by decide +kernel
theorem dX0_drawTail_56 : decode cX0_drawTail 56 = .ok (.invokestatic 9, 3) := by decide +kernel
theorem dX0_drawTail_59 : decode cX0_drawTail 59 = .ok (.putfield 70, 3) := by decide +kernel
theorem dX0_drawTail_62 : decode cX0_drawTail 62 = .ok (.return_, 1) := by decide +kernel
theorem dX0_kindOf_0 : decode cX0_kindOf 0 = .ok (.aload_n 0, 1) := by decide +kernel
theorem dX0_kindOf_1 : decode cX0_kindOf 1 = .ok (.iload_n 1, 1) := by decide +kernel
theorem dX0_kindOf_2 : decode cX0_kindOf 2 = .ok (.invokevirtual 37, 3) := by decide +kernel
theorem dX0_kindOf_5 : decode cX0_kindOf 5 = .ok (.ifCond .ne 5, 3) := by decide +kernel
theorem dX0_kindOf_8 : decode cX0_kindOf 8 = .ok (.iconst 0, 1) := by decide +kernel
theorem dX0_kindOf_9 : decode cX0_kindOf 9 = .ok (.ireturn, 1) := by decide +kernel
theorem dX0_kindOf_10 : decode cX0_kindOf 10 = .ok (.aload_n 0, 1) := by decide +kernel
theorem dX0_kindOf_11 : decode cX0_kindOf 11 = .ok (.getfield 25, 3) := by decide +kernel
theorem dX0_kindOf_14 : decode cX0_kindOf 14 = .ok (.iload_n 1, 1) := by decide +kernel
theorem dX0_kindOf_15 : decode cX0_kindOf 15 = .ok (.iaload, 1) := by decide +kernel
theorem dX0_kindOf_16 : decode cX0_kindOf 16 = .ok (.ifCond .ne 5, 3) := by decide +kernel
theorem dX0_kindOf_19 : decode cX0_kindOf 19 = .ok (.iconst 3, 1) := by decide +kernel
theorem dX0_kindOf_20 : decode cX0_kindOf 20 = .ok (.ireturn, 1) := by decide +kernel
theorem dX0_kindOf_21 : decode cX0_kindOf 21 = .ok (.aload_n 0, 1) := by decide +kernel
theorem dX0_kindOf_22 : decode cX0_kindOf 22 = .ok (.getfield 21, 3) := by decide +kernel
theorem dX0_kindOf_25 : decode cX0_kindOf 25 = .ok (.iload_n 1, 1) := by decide +kernel
theorem dX0_kindOf_26 : decode cX0_kindOf 26 = .ok (.iaload, 1) := by decide +kernel
theorem dX0_kindOf_27 : decode cX0_kindOf 27 = .ok (.iload_n 1, 1) := by decide +kernel
theorem dX0_kindOf_28 : decode cX0_kindOf 28 = .ok (.if_icmp .ne 5, 3) := by decide +kernel
theorem dX0_kindOf_31 : decode cX0_kindOf 31 = .ok (.iconst 2, 1) := by decide +kernel
theorem dX0_kindOf_32 : decode cX0_kindOf 32 = .ok (.ireturn, 1) := by decide +kernel
theorem dX0_kindOf_33 : decode cX0_kindOf 33 = .ok (.aload_n 0, 1) := by decide +kernel
theorem dX0_kindOf_34 : decode cX0_kindOf 34 = .ok (.getfield 28, 3) := by decide +kernel
theorem dX0_kindOf_37 : decode cX0_kindOf 37 = .ok (.iload_n 1, 1) := by decide +kernel
theorem dX0_kindOf_38 : decode cX0_kindOf 38 = .ok (.iaload, 1) := by decide +kernel
theorem dX0_kindOf_39 : decode cX0_kindOf 39 = .ok (.ifCond .ne 7, 3) := by decide +kernel
theorem dX0_kindOf_42 : decode cX0_kindOf 42 = .ok (.iconst 1, 1) := by decide +kernel
theorem dX0_kindOf_43 : decode cX0_kindOf 43 = .ok (.goto 4, 3) := by decide +kernel
theorem dX0_kindOf_46 : decode cX0_kindOf 46 = .ok (.iconst 0, 1) := by decide +kernel
theorem dX0_kindOf_47 : decode cX0_kindOf 47 = .ok (.ireturn, 1) := by decide +kernel
theorem dX0_tailOf_0 : decode cX0_tailOf 0 = .ok (.aload_n 0, 1) := by decide +kernel
theorem dX0_tailOf_1 : decode cX0_tailOf 1 = .ok (.iload_n 1, 1) := by decide +kernel
theorem dX0_tailOf_2 : decode cX0_tailOf 2 = .ok (.invokevirtual 37, 3) := by decide +kernel
theorem dX0_tailOf_5 : decode cX0_tailOf 5 = .ok (.ifCond .eq 12, 3) := by decide +kernel
theorem dX0_tailOf_8 : decode cX0_tailOf 8 = .ok (.aload_n 0, 1) := by decide +kernel
theorem dX0_tailOf_9 : decode cX0_tailOf 9 = .ok (.getfield 28, 3) := by decide +kernel
theorem dX0_tailOf_12 : decode cX0_tailOf 12 = .ok (.iload_n 1, 1) := by decide +kernel
theorem dX0_tailOf_13 : decode cX0_tailOf 13 = .ok (.iaload, 1) := by decide +kernel
theorem dX0_tailOf_14 : decode cX0_tailOf 14 = .ok (.goto 4, 3) := by decide +kernel
theorem dX0_tailOf_17 : decode cX0_tailOf 17 = .ok (.iconst 0, 1) := by decide +kernel
theorem dX0_tailOf_18 : decode cX0_tailOf 18 = .ok (.ireturn, 1) := by decide +kernel
theorem dX0_beatOf_0 : decode cX0_beatOf 0 = .ok (.aload_n 0, 1) := by decide +kernel
theorem dX0_beatOf_1 : decode cX0_beatOf 1 = .ok (.iload_n 1, 1) := by decide +kernel
theorem dX0_beatOf_2 : decode cX0_beatOf 2 = .ok (.invokevirtual 37, 3) := by decide +kernel
theorem dX0_beatOf_5 : decode cX0_beatOf 5 = .ok (.ifCond .eq 12, 3) := by decide +kernel
theorem dX0_beatOf_8 : decode cX0_beatOf 8 = .ok (.aload_n 0, 1) := by decide +kernel
theorem dX0_beatOf_9 : decode cX0_beatOf 9 = .ok (.getfield 31, 3) := by decide +kernel
theorem dX0_beatOf_12 : decode cX0_beatOf 12 = .ok (.iload_n 1, 1) := by decide +kernel
theorem dX0_beatOf_13 : decode cX0_beatOf 13 = .ok (.iaload, 1) := by decide +kernel
theorem dX0_beatOf_14 : decode cX0_beatOf 14 = .ok (.goto 4, 3) := by decide +kernel
theorem dX0_beatOf_17 : decode cX0_beatOf 17 = .ok (.iconst 0, 1) := by decide +kernel
theorem dX0_beatOf_18 : decode cX0_beatOf 18 = .ok (.ireturn, 1) := by decide +kernel
theorem dX0_leaderOf_0 : decode cX0_leaderOf 0 = .ok (.aload_n 0, 1) := by decide +kernel
theorem dX0_leaderOf_1 : decode cX0_leaderOf 1 = .ok (.iload_n 1, 1) := by decide +kernel
theorem dX0_leaderOf_2 : decode cX0_leaderOf 2 = .ok (.invokevirtual 37, 3) := by decide +kernel
theorem dX0_leaderOf_5 : decode cX0_leaderOf 5 = .ok (.ifCond .eq 12, 3) := by decide +kernel
theorem dX0_leaderOf_8 : decode cX0_leaderOf 8 = .ok (.aload_n 0, 1) := by decide +kernel
theorem dX0_leaderOf_9 : decode cX0_leaderOf 9 = .ok (.getfield 34, 3) := by decide +kernel
theorem dX0_leaderOf_12 : decode cX0_leaderOf 12 = .ok (.iload_n 1, 1) := by decide +kernel
theorem dX0_leaderOf_13 : decode cX0_leaderOf 13 = .ok (.iaload, 1) := by decide +kernel
theorem dX0_leaderOf_14 : decode cX0_leaderOf 14 = .ok (.goto 4, 3) := by decide +kernel
theorem dX0_leaderOf_17 : decode cX0_leaderOf 17 = .ok (.iconst 0, 1) := by decide +kernel
theorem dX0_leaderOf_18 : decode cX0_leaderOf 18 = .ok (.ireturn, 1) := by decide +kernel
theorem dX0_comersTo_0 : decode cX0_comersTo 0 = .ok (.aload_n 0, 1) := by decide +kernel
theorem dX0_comersTo_1 : decode cX0_comersTo 1 = .ok (.iload_n 1, 1) := by decide +kernel
theorem dX0_comersTo_2 : decode cX0_comersTo 2 = .ok (.invokevirtual 37, 3) := by decide +kernel
theorem dX0_comersTo_5 : decode cX0_comersTo 5 = .ok (.ifCond .eq 12, 3) := by decide +kernel
theorem dX0_comersTo_8 : decode cX0_comersTo 8 = .ok (.aload_n 0, 1) := by decide +kernel
theorem dX0_comersTo_9 : decode cX0_comersTo 9 = .ok (.getfield 25, 3) := by decide +kernel
theorem dX0_comersTo_12 : decode cX0_comersTo 12 = .ok (.iload_n 1, 1) := by decide +kernel
theorem dX0_comersTo_13 : decode cX0_comersTo 13 = .ok (.iaload, 1) := by decide +kernel
theorem dX0_comersTo_14 : decode cX0_comersTo 14 = .ok (.goto 4, 3) := by decide +kernel
theorem dX0_comersTo_17 : decode cX0_comersTo 17 = .ok (.iconst 0, 1) := by decide +kernel
theorem dX0_comersTo_18 : decode cX0_comersTo 18 = .ok (.ireturn, 1) := by decide +kernel
theorem dX0_comerTo_0 : decode cX0_comerTo 0 = .ok (.iconst 0, 1) := by decide +kernel
theorem dX0_comerTo_1 : decode cX0_comerTo 1 = .ok (.istore_n 3, 1) := by decide +kernel
theorem dX0_comerTo_2 : decode cX0_comerTo 2 = .ok (.iconst 0, 1) := by decide +kernel
theorem dX0_comerTo_3 : decode cX0_comerTo 3 = .ok (.istore 4, 2) := by decide +kernel
theorem dX0_comerTo_5 : decode cX0_comerTo 5 = .ok (.iload 4, 2) := by decide +kernel
theorem dX0_comerTo_7 : decode cX0_comerTo 7 = .ok (.aload_n 0, 1) := by decide +kernel
theorem dX0_comerTo_8 : decode cX0_comerTo 8 = .ok (.getfield 15, 3) := by decide +kernel
theorem dX0_comerTo_11 : decode cX0_comerTo 11 = .ok (.if_icmp .ge 31, 3) := by decide +kernel
theorem dX0_comerTo_14 : decode cX0_comerTo 14 = .ok (.aload_n 0, 1) := by decide +kernel
theorem dX0_comerTo_15 : decode cX0_comerTo 15 = .ok (.getfield 21, 3) := by decide +kernel
theorem dX0_comerTo_18 : decode cX0_comerTo 18 = .ok (.iload 4, 2) := by decide +kernel
theorem dX0_comerTo_20 : decode cX0_comerTo 20 = .ok (.iaload, 1) := by decide +kernel
theorem dX0_comerTo_21 : decode cX0_comerTo 21 = .ok (.iload_n 1, 1) := by decide +kernel
theorem dX0_comerTo_22 : decode cX0_comerTo 22 = .ok (.if_icmp .ne 14, 3) := by decide +kernel
theorem dX0_comerTo_25 : decode cX0_comerTo 25 = .ok (.iload_n 3, 1) := by decide +kernel
theorem dX0_comerTo_26 : decode cX0_comerTo 26 = .ok (.iload_n 2, 1) := by decide +kernel
theorem dX0_comerTo_27 : decode cX0_comerTo 27 = .ok (.if_icmp .ne 6, 3) := by decide +kernel
theorem dX0_comerTo_30 : decode cX0_comerTo 30 = .ok (.iload 4, 2) := by decide +kernel
theorem dX0_comerTo_32 : decode cX0_comerTo 32 = .ok (.ireturn, 1) := by decide +kernel
theorem dX0_comerTo_33 : decode cX0_comerTo 33 = .ok (.iinc 3 1, 3) := by decide +kernel
theorem dX0_comerTo_36 : decode cX0_comerTo 36 = .ok (.iinc 4 1, 3) := by decide +kernel
theorem dX0_comerTo_39 : decode cX0_comerTo 39 = .ok (.goto (-34), 3) := by decide +kernel
theorem dX0_comerTo_42 : decode cX0_comerTo 42 = .ok (.bipush (-9), 2) := by decide +kernel
theorem dX0_comerTo_44 : decode cX0_comerTo 44 = .ok (.ireturn, 1) := by decide +kernel
theorem dX0_leaderOfRing_0 : decode cX0_leaderOfRing 0 = .ok (.iconst 0, 1) := by decide +kernel
theorem dX0_leaderOfRing_1 : decode cX0_leaderOfRing 1 = .ok (.istore_n 2, 1) := by decide +kernel
theorem dX0_leaderOfRing_2 : decode cX0_leaderOfRing 2 = .ok (.iconst 0, 1) := by decide +kernel
theorem dX0_leaderOfRing_3 : decode cX0_leaderOfRing 3 = .ok (.istore_n 3, 1) := by decide +kernel
theorem dX0_leaderOfRing_4 : decode cX0_leaderOfRing 4 = .ok (.iload_n 3, 1) := by decide +kernel
theorem dX0_leaderOfRing_5 : decode cX0_leaderOfRing 5 = .ok (.aload_n 0, 1) := by decide +kernel
theorem dX0_leaderOfRing_6 : decode cX0_leaderOfRing 6 = .ok (.getfield 15, 3) := by decide +kernel
theorem dX0_leaderOfRing_9 : decode cX0_leaderOfRing 9 = .ok (.if_icmp .ge 29, 3) := by decide +kernel
theorem dX0_leaderOfRing_12 : decode cX0_leaderOfRing 12 = .ok (.aload_n 0, 1) := by decide +kernel
theorem dX0_leaderOfRing_13 : decode cX0_leaderOfRing 13 = .ok (.getfield 34, 3) := by decide +kernel
theorem dX0_leaderOfRing_16 : decode cX0_leaderOfRing 16 = .ok (.iload_n 3, 1) := by decide +kernel
theorem dX0_leaderOfRing_17 : decode cX0_leaderOfRing 17 = .ok (.iaload, 1) := by decide +kernel
theorem dX0_leaderOfRing_18 : decode cX0_leaderOfRing 18 = .ok (.iload_n 3, 1) := by decide +kernel
theorem dX0_leaderOfRing_19 : decode cX0_leaderOfRing 19 = .ok (.if_icmp .ne 13, 3) := by decide +kernel
theorem dX0_leaderOfRing_22 : decode cX0_leaderOfRing 22 = .ok (.iload_n 2, 1) := by decide +kernel
theorem dX0_leaderOfRing_23 : decode cX0_leaderOfRing 23 = .ok (.iload_n 1, 1) := by decide +kernel
theorem dX0_leaderOfRing_24 : decode cX0_leaderOfRing 24 = .ok (.if_icmp .ne 5, 3) := by decide +kernel
theorem dX0_leaderOfRing_27 : decode cX0_leaderOfRing 27 = .ok (.iload_n 3, 1) := by decide +kernel
theorem dX0_leaderOfRing_28 : decode cX0_leaderOfRing 28 = .ok (.ireturn, 1) := by decide +kernel
theorem dX0_leaderOfRing_29 : decode cX0_leaderOfRing 29 = .ok (.iinc 2 1, 3) := by decide +kernel
theorem dX0_leaderOfRing_32 : decode cX0_leaderOfRing 32 = .ok (.iinc 3 1, 3) := by decide +kernel
theorem dX0_leaderOfRing_35 : decode cX0_leaderOfRing 35 = .ok (.goto (-31), 3) := by decide +kernel
theorem dX0_leaderOfRing_38 : decode cX0_leaderOfRing 38 = .ok (.bipush (-9), 2) := by decide +kernel
theorem dX0_leaderOfRing_40 : decode cX0_leaderOfRing 40 = .ok (.ireturn, 1) := by decide +kernel
theorem dX0_after_0 : decode cX0_after 0 = .ok (.iload_n 1, 1) := by decide +kernel
theorem dX0_after_1 : decode cX0_after 1 = .ok (.istore_n 3, 1) := by decide +kernel
theorem dX0_after_2 : decode cX0_after 2 = .ok (.iconst 0, 1) := by decide +kernel
theorem dX0_after_3 : decode cX0_after 3 = .ok (.istore 4, 2) := by decide +kernel
theorem dX0_after_5 : decode cX0_after 5 = .ok (.iload 4, 2) := by decide +kernel
theorem dX0_after_7 : decode cX0_after 7 = .ok (.iload_n 2, 1) := by decide +kernel
theorem dX0_after_8 : decode cX0_after 8 = .ok (.if_icmp .ge 24, 3) := by decide +kernel
theorem dX0_after_11 : decode cX0_after 11 = .ok (.aload_n 0, 1) := by decide +kernel
theorem dX0_after_12 : decode cX0_after 12 = .ok (.iload_n 3, 1) := by decide +kernel
theorem dX0_after_13 : decode cX0_after 13 = .ok (.invokevirtual 37, 3) := by decide +kernel
theorem dX0_after_16 : decode cX0_after 16 = .ok (.ifCond .eq 16, 3) := by decide +kernel
theorem dX0_after_19 : decode cX0_after 19 = .ok (.aload_n 0, 1) := by decide +kernel
theorem dX0_after_20 : decode cX0_after 20 = .ok (.getfield 21, 3) := by decide +kernel
theorem dX0_after_23 : decode cX0_after 23 = .ok (.iload_n 3, 1) := by decide +kernel
theorem dX0_after_24 : decode cX0_after 24 = .ok (.iaload, 1) := by decide +kernel
theorem dX0_after_25 : decode cX0_after 25 = .ok (.istore_n 3, 1) := by decide +kernel
theorem dX0_after_26 : decode cX0_after 26 = .ok (.iinc 4 1, 3) := by decide +kernel
theorem dX0_after_29 : decode cX0_after 29 = .ok (.goto (-24), 3) := by decide +kernel
theorem dX0_after_32 : decode cX0_after 32 = .ok (.iload_n 3, 1) := by decide +kernel
theorem dX0_after_33 : decode cX0_after 33 = .ok (.ireturn, 1) := by decide +kernel
theorem dX0_stepsBetween_0 : decode cX0_stepsBetween 0 = .ok (.iload_n 1, 1) := by decide +kernel
theorem dX0_stepsBetween_1 : decode cX0_stepsBetween 1 = .ok (.istore_n 3, 1) := by decide +kernel
theorem dX0_stepsBetween_2 : decode cX0_stepsBetween 2 = .ok (.iconst 0, 1) := by decide +kernel
theorem dX0_stepsBetween_3 : decode cX0_stepsBetween 3 = .ok (.istore 4, 2) := by decide +kernel
theorem dX0_stepsBetween_5 : decode cX0_stepsBetween 5 = .ok (.iload 4, 2) := by decide +kernel
theorem dX0_stepsBetween_7 : decode cX0_stepsBetween 7 = .ok (.aload_n 0, 1) := by decide +kernel
theorem dX0_stepsBetween_8 : decode cX0_stepsBetween 8 = .ok (.getfield 15, 3) := by decide +kernel
theorem dX0_stepsBetween_11 : decode cX0_stepsBetween 11 = .ok (.if_icmp .ge 32, 3) := by decide +kernel
theorem dX0_stepsBetween_14 : decode cX0_stepsBetween 14 = .ok (.aload_n 0, 1) := by decide +kernel
theorem dX0_stepsBetween_15 : decode cX0_stepsBetween 15 = .ok (.iload_n 3, 1) := by decide +kernel
theorem dX0_stepsBetween_16 : decode cX0_stepsBetween 16 = .ok (.invokevirtual 37, 3) := by decide +kernel
theorem dX0_stepsBetween_19 : decode cX0_stepsBetween 19 = .ok (.ifCond .eq 24, 3) := by decide +kernel
theorem dX0_stepsBetween_22 : decode cX0_stepsBetween 22 = .ok (.iload_n 3, 1) := by decide +kernel
theorem dX0_stepsBetween_23 : decode cX0_stepsBetween 23 = .ok (.iload_n 2, 1) := by decide +kernel
theorem dX0_stepsBetween_24 : decode cX0_stepsBetween 24 = .ok (.if_icmp .ne 6, 3) := by decide +kernel
theorem dX0_stepsBetween_27 : decode cX0_stepsBetween 27 = .ok (.iload 4, 2) := by decide +kernel
theorem dX0_stepsBetween_29 : decode cX0_stepsBetween 29 = .ok (.ireturn, 1) := by decide +kernel
theorem dX0_stepsBetween_30 : decode cX0_stepsBetween 30 = .ok (.aload_n 0, 1) := by decide +kernel
theorem dX0_stepsBetween_31 : decode cX0_stepsBetween 31 = .ok (.getfield 21, 3) := by decide +kernel
theorem dX0_stepsBetween_34 : decode cX0_stepsBetween 34 = .ok (.iload_n 3, 1) := by decide +kernel
theorem dX0_stepsBetween_35 : decode cX0_stepsBetween 35 = .ok (.iaload, 1) := by decide +kernel
theorem dX0_stepsBetween_36 : decode cX0_stepsBetween 36 = .ok (.istore_n 3, 1) := by decide +kernel
theorem dX0_stepsBetween_37 : decode cX0_stepsBetween 37 = .ok (.iinc 4 1, 3) := by decide +kernel
theorem dX0_stepsBetween_40 : decode cX0_stepsBetween 40 = .ok (.goto (-35), 3) := by decide +kernel
theorem dX0_stepsBetween_43 : decode cX0_stepsBetween 43 = .ok (.bipush (-9), 2) := by decide +kernel
theorem dX0_stepsBetween_45 : decode cX0_stepsBetween 45 = .ok (.ireturn, 1) := by decide +kernel
theorem dX1_init_0 : decode cX1_init 0 = .ok (.aload_n 0, 1) := by decide +kernel
theorem dX1_init_1 : decode cX1_init 1 = .ok (.invokespecial 3, 3) := by decide +kernel
theorem dX1_init_4 : decode cX1_init 4 = .ok (.aload_n 0, 1) := by decide +kernel
theorem dX1_init_5 : decode cX1_init 5 = .ok (.sipush 361, 3) := by decide +kernel
theorem dX1_init_8 : decode cX1_init 8 = .ok (.newarray .int, 2) := by decide +kernel
theorem dX1_init_10 : decode cX1_init 10 = .ok (.putfield 9, 3) := by decide +kernel
theorem dX1_init_13 : decode cX1_init 13 = .ok (.iconst 0, 1) := by decide +kernel
theorem dX1_init_14 : decode cX1_init 14 = .ok (.istore_n 1, 1) := by decide +kernel
theorem dX1_init_15 : decode cX1_init 15 = .ok (.iload_n 1, 1) := by decide +kernel
theorem dX1_init_16 : decode cX1_init 16 = .ok (.bipush 19, 2) := by decide +kernel
theorem dX1_init_18 : decode cX1_init 18 = .ok (.if_icmp .ge 16, 3) := by decide +kernel
theorem dX1_init_21 : decode cX1_init 21 = .ok (.aload_n 0, 1) := by decide +kernel
theorem dX1_init_22 : decode cX1_init 22 = .ok (.getfield 9, 3) := by decide +kernel
theorem dX1_init_25 : decode cX1_init 25 = .ok (.iload_n 1, 1) := by decide +kernel
theorem dX1_init_26 : decode cX1_init 26 = .ok (.iconst 1, 1) := by decide +kernel
theorem dX1_init_27 : decode cX1_init 27 = .ok (.iastore, 1) := by decide +kernel
theorem dX1_init_28 : decode cX1_init 28 = .ok (.iinc 1 1, 3) := by decide +kernel
theorem dX1_init_31 : decode cX1_init 31 = .ok (.goto (-16), 3) := by decide +kernel
theorem dX1_init_34 : decode cX1_init 34 = .ok (.iconst 1, 1) := by decide +kernel
theorem dX1_init_35 : decode cX1_init 35 = .ok (.istore_n 1, 1) := by decide +kernel
theorem dX1_init_36 : decode cX1_init 36 = .ok (.iload_n 1, 1) := by decide +kernel
theorem dX1_init_37 : decode cX1_init 37 = .ok (.bipush 19, 2) := by decide +kernel
theorem dX1_init_39 : decode cX1_init 39 = .ok (.if_icmp .ge 72, 3) := by decide +kernel
theorem dX1_init_42 : decode cX1_init 42 = .ok (.iconst 1, 1) := by decide +kernel
theorem dX1_init_43 : decode cX1_init 43 = .ok (.istore_n 2, 1) := by decide +kernel
theorem dX1_init_44 : decode cX1_init 44 = .ok (.iload_n 2, 1) := by decide +kernel
theorem dX1_init_45 : decode cX1_init 45 = .ok (.bipush 19, 2) := by decide +kernel
theorem dX1_init_47 : decode cX1_init 47 = .ok (.if_icmp .ge 58, 3) := by decide +kernel
theorem dX1_init_50 : decode cX1_init 50 = .ok (.iload_n 2, 1) := by decide +kernel
theorem dX1_init_51 : decode cX1_init 51 = .ok (.iload_n 1, 1) := by decide +kernel
theorem dX1_init_52 : decode cX1_init 52 = .ok (.if_icmp .gt 19, 3) := by decide +kernel
theorem dX1_init_55 : decode cX1_init 55 = .ok (.aload_n 0, 1) := by decide +kernel
theorem dX1_init_56 : decode cX1_init 56 = .ok (.getfield 9, 3) := by decide +kernel
theorem dX1_init_59 : decode cX1_init 59 = .ok (.iload_n 1, 1) := by decide +kernel
theorem dX1_init_60 : decode cX1_init 60 = .ok (.iload_n 2, 1) := by decide +kernel
theorem dX1_init_61 : decode cX1_init 61 = .ok (.isub, 1) := by decide +kernel
theorem dX1_init_62 : decode cX1_init 62 = .ok (.bipush 19, 2) := by decide +kernel
theorem dX1_init_64 : decode cX1_init 64 = .ok (.imul, 1) := by decide +kernel
theorem dX1_init_65 : decode cX1_init 65 = .ok (.iload_n 2, 1) := by decide +kernel
theorem dX1_init_66 : decode cX1_init 66 = .ok (.iadd, 1) := by decide +kernel
theorem dX1_init_67 : decode cX1_init 67 = .ok (.iaload, 1) := by decide +kernel
theorem dX1_init_68 : decode cX1_init 68 = .ok (.goto 4, 3) := by decide +kernel
theorem dX1_init_71 : decode cX1_init 71 = .ok (.iconst 0, 1) := by decide +kernel
theorem dX1_init_72 : decode cX1_init 72 = .ok (.istore_n 3, 1) := by decide +kernel
theorem dX1_init_73 : decode cX1_init 73 = .ok (.aload_n 0, 1) := by decide +kernel
theorem dX1_init_74 : decode cX1_init 74 = .ok (.getfield 9, 3) := by decide +kernel
theorem dX1_init_77 : decode cX1_init 77 = .ok (.iload_n 1, 1) := by decide +kernel
theorem dX1_init_78 : decode cX1_init 78 = .ok (.bipush 19, 2) := by decide +kernel
theorem dX1_init_80 : decode cX1_init 80 = .ok (.imul, 1) := by decide +kernel
theorem dX1_init_81 : decode cX1_init 81 = .ok (.iload_n 2, 1) := by decide +kernel
theorem dX1_init_82 : decode cX1_init 82 = .ok (.iadd, 1) := by decide +kernel
theorem dX1_init_83 : decode cX1_init 83 = .ok (.aload_n 0, 1) := by decide +kernel
theorem dX1_init_84 : decode cX1_init 84 = .ok (.getfield 9, 3) := by decide +kernel
theorem dX1_init_87 : decode cX1_init 87 = .ok (.iload_n 1, 1) := by decide +kernel
theorem dX1_init_88 : decode cX1_init 88 = .ok (.bipush 19, 2) := by decide +kernel
theorem dX1_init_90 : decode cX1_init 90 = .ok (.imul, 1) := by decide +kernel
theorem dX1_init_91 : decode cX1_init 91 = .ok (.iload_n 2, 1) := by decide +kernel
theorem dX1_init_92 : decode cX1_init 92 = .ok (.iadd, 1) := by decide +kernel
theorem dX1_init_93 : decode cX1_init 93 = .ok (.iconst 1, 1) := by decide +kernel
theorem dX1_init_94 : decode cX1_init 94 = .ok (.isub, 1) := by decide +kernel
theorem dX1_init_95 : decode cX1_init 95 = .ok (.iaload, 1) := by decide +kernel
theorem dX1_init_96 : decode cX1_init 96 = .ok (.iload_n 3, 1) := by decide +kernel
theorem dX1_init_97 : decode cX1_init 97 = .ok (.iadd, 1) := by decide +kernel
theorem dX1_init_98 : decode cX1_init 98 = .ok (.iastore, 1) := by decide +kernel
theorem dX1_init_99 : decode cX1_init 99 = .ok (.iinc 2 1, 3) := by decide +kernel
theorem dX1_init_102 : decode cX1_init 102 = .ok (.goto (-58), 3) := by decide +kernel
theorem dX1_init_105 : decode cX1_init 105 = .ok (.iinc 1 1, 3) := by decide +kernel
theorem dX1_init_108 : decode cX1_init 108 = .ok (.goto (-72), 3) := by decide +kernel
theorem dX1_init_111 : decode cX1_init 111 = .ok (.return_, 1) := by decide +kernel
theorem dX1_cappedAt_0 : decode cX1_cappedAt 0 = .ok (.iload_n 1, 1) := by decide +kernel
theorem dX1_cappedAt_1 : decode cX1_cappedAt 1 = .ok (.ifCond .lt 33, 3) := by decide +kernel
theorem dX1_cappedAt_4 : decode cX1_cappedAt 4 = .ok (.iload_n 1, 1) := by decide +kernel
theorem dX1_cappedAt_5 : decode cX1_cappedAt 5 = .ok (.bipush 19, 2) := by decide +kernel
theorem dX1_cappedAt_7 : decode cX1_cappedAt 7 = .ok (.if_icmp .ge 27, 3) := by decide +kernel
theorem dX1_cappedAt_10 : decode cX1_cappedAt 10 = .ok (.iload_n 2, 1) := by decide +kernel
theorem dX1_cappedAt_11 : decode cX1_cappedAt 11 = .ok (.ifCond .lt 23, 3) := by decide +kernel
theorem dX1_cappedAt_14 : decode cX1_cappedAt 14 = .ok (.iload_n 2, 1) := by decide +kernel
theorem dX1_cappedAt_15 : decode cX1_cappedAt 15 = .ok (.bipush 19, 2) := by decide +kernel
theorem dX1_cappedAt_17 : decode cX1_cappedAt 17 = .ok (.if_icmp .ge 17, 3) := by decide +kernel
theorem dX1_cappedAt_20 : decode cX1_cappedAt 20 = .ok (.aload_n 0, 1) := by decide +kernel
theorem dX1_cappedAt_21 : decode cX1_cappedAt 21 = .ok (.getfield 9, 3) := by decide +kernel
theorem dX1_cappedAt_24 : decode cX1_cappedAt 24 = .ok (.iload_n 1, 1) := by decide +kernel
theorem dX1_cappedAt_25 : decode cX1_cappedAt 25 = .ok (.bipush 19, 2) := by decide +kernel
theorem dX1_cappedAt_27 : decode cX1_cappedAt 27 = .ok (.imul, 1) := by decide +kernel
theorem dX1_cappedAt_28 : decode cX1_cappedAt 28 = .ok (.iload_n 2, 1) := by decide +kernel
theorem dX1_cappedAt_29 : decode cX1_cappedAt 29 = .ok (.iadd, 1) := by decide +kernel
theorem dX1_cappedAt_30 : decode cX1_cappedAt 30 = .ok (.iaload, 1) := by decide +kernel
theorem dX1_cappedAt_31 : decode cX1_cappedAt 31 = .ok (.goto 4, 3) := by decide +kernel
theorem dX1_cappedAt_34 : decode cX1_cappedAt 34 = .ok (.iconst 0, 1) := by decide +kernel
theorem dX1_cappedAt_35 : decode cX1_cappedAt 35 = .ok (.ireturn, 1) := by decide +kernel
theorem dX1_length_0 : decode cX1_length 0 = .ok (.aload_n 0, 1) := by decide +kernel
theorem dX1_length_1 : decode cX1_length 1 = .ok (.iload_n 1, 1) := by decide +kernel
theorem dX1_length_2 : decode cX1_length 2 = .ok (.iload_n 1, 1) := by decide +kernel
theorem dX1_length_3 : decode cX1_length 3 = .ok (.invokevirtual 15, 3) := by decide +kernel
theorem dX1_length_6 : decode cX1_length 6 = .ok (.ireturn, 1) := by decide +kernel
theorem dX1_numberOf_0 : decode cX1_numberOf 0 = .ok (.iconst 0, 1) := by decide +kernel
theorem dX1_numberOf_1 : decode cX1_numberOf 1 = .ok (.istore_n 2, 1) := by decide +kernel
theorem dX1_numberOf_2 : decode cX1_numberOf 2 = .ok (.aload_n 1, 1) := by decide +kernel
theorem dX1_numberOf_3 : decode cX1_numberOf 3 = .ok (.getfield 19, 3) := by decide +kernel
theorem dX1_numberOf_6 : decode cX1_numberOf 6 = .ok (.istore_n 3, 1) := by decide +kernel
theorem dX1_numberOf_7 : decode cX1_numberOf 7 = .ok (.iload_n 3, 1) := by decide +kernel
theorem dX1_numberOf_8 : decode cX1_numberOf 8 = .ok (.istore 4, 2) := by decide +kernel
theorem dX1_numberOf_10 : decode cX1_numberOf 10 = .ok (.iconst 0, 1) := by decide +kernel
theorem dX1_numberOf_11 : decode cX1_numberOf 11 = .ok (.istore 5, 2) := by decide +kernel
theorem dX1_numberOf_13 : decode cX1_numberOf 13 = .ok (.iload 5, 2) := by decide +kernel
theorem dX1_numberOf_15 : decode cX1_numberOf 15 = .ok (.aload_n 1, 1) := by decide +kernel
theorem dX1_numberOf_16 : decode cX1_numberOf 16 = .ok (.getfield 25, 3) := by decide +kernel
theorem dX1_numberOf_19 : decode cX1_numberOf 19 = .ok (.if_icmp .ge 44, 3) := by decide +kernel
theorem dX1_numberOf_22 : decode cX1_numberOf 22 = .ok (.aload_n 1, 1) := by decide +kernel
theorem dX1_numberOf_23 : decode cX1_numberOf 23 = .ok (.iload 5, 2) := by decide +kernel
theorem dX1_numberOf_25 : decode cX1_numberOf 25 = .ok (.invokevirtual 28, 3) := by decide +kernel
theorem dX1_numberOf_28 : decode cX1_numberOf 28 = .ok (.istore 6, 2) := by decide +kernel
theorem dX1_numberOf_30 : decode cX1_numberOf 30 = .ok (.iload_n 2, 1) := by decide +kernel
theorem dX1_numberOf_31 : decode cX1_numberOf 31 = .ok (.aload_n 0, 1) := by decide +kernel
theorem dX1_numberOf_32 : decode cX1_numberOf 32 = .ok (.iload_n 3, 1) := by decide +kernel
theorem dX1_numberOf_33 : decode cX1_numberOf 33 = .ok (.iload 4, 2) := by decide +kernel
theorem dX1_numberOf_35 : decode cX1_numberOf 35 = .ok (.invokevirtual 15, 3) := by decide +kernel
theorem dX1_numberOf_38 : decode cX1_numberOf 38 = .ok (.aload_n 0, 1) := by decide +kernel
theorem dX1_numberOf_39 : decode cX1_numberOf 39 = .ok (.iload_n 3, 1) := by decide +kernel
theorem dX1_numberOf_40 : decode cX1_numberOf 40 = .ok (.iload 6, 2) := by decide +kernel
theorem dX1_numberOf_42 : decode cX1_numberOf 42 = .ok (.invokevirtual 15, 3) := by decide +kernel
theorem dX1_numberOf_45 : decode cX1_numberOf 45 = .ok (.isub, 1) := by decide +kernel
theorem dX1_numberOf_46 : decode cX1_numberOf 46 = .ok (.iadd, 1) := by decide +kernel
theorem dX1_numberOf_47 : decode cX1_numberOf 47 = .ok (.istore_n 2, 1) := by decide +kernel
theorem dX1_numberOf_48 : decode cX1_numberOf 48 = .ok (.iload_n 3, 1) := by decide +kernel
theorem dX1_numberOf_49 : decode cX1_numberOf 49 = .ok (.iload 6, 2) := by decide +kernel
theorem dX1_numberOf_51 : decode cX1_numberOf 51 = .ok (.isub, 1) := by decide +kernel
theorem dX1_numberOf_52 : decode cX1_numberOf 52 = .ok (.istore_n 3, 1) := by decide +kernel
theorem dX1_numberOf_53 : decode cX1_numberOf 53 = .ok (.iload 6, 2) := by decide +kernel
theorem dX1_numberOf_55 : decode cX1_numberOf 55 = .ok (.istore 4, 2) := by decide +kernel
theorem dX1_numberOf_57 : decode cX1_numberOf 57 = .ok (.iinc 5 1, 3) := by decide +kernel
theorem dX1_numberOf_60 : decode cX1_numberOf 60 = .ok (.goto (-47), 3) := by decide +kernel
theorem dX1_numberOf_63 : decode cX1_numberOf 63 = .ok (.iload_n 2, 1) := by decide +kernel
theorem dX1_numberOf_64 : decode cX1_numberOf 64 = .ok (.ireturn, 1) := by decide +kernel
theorem dX1_write_0 : decode cX1_write 0 = .ok (.aload_n 1, 1) := by decide +kernel
theorem dX1_write_1 : decode cX1_write 1 = .ok (.invokevirtual 32, 3) := by decide +kernel
theorem dX1_write_4 : decode cX1_write 4 = .ok (.iload_n 2, 1) := by decide +kernel
theorem dX1_write_5 : decode cX1_write 5 = .ok (.istore 4, 2) := by decide +kernel
theorem dX1_write_7 : decode cX1_write 7 = .ok (.iload_n 3, 1) := by decide +kernel
theorem dX1_write_8 : decode cX1_write 8 = .ok (.istore 5, 2) := by decide +kernel
theorem dX1_write_10 : decode cX1_write 10 = .ok (.iload_n 2, 1) := by decide +kernel
theorem dX1_write_11 : decode cX1_write 11 = .ok (.istore 6, 2) := by decide +kernel
theorem dX1_write_13 : decode cX1_write 13 = .ok (.iload 6, 2) := by decide +kernel
theorem dX1_write_15 : decode cX1_write 15 = .ok (.ifCond .le 74, 3) := by decide +kernel
theorem dX1_write_18 : decode cX1_write 18 = .ok (.iconst 0, 1) := by decide +kernel
theorem dX1_write_19 : decode cX1_write 19 = .ok (.istore 7, 2) := by decide +kernel
theorem dX1_write_21 : decode cX1_write 21 = .ok (.iload 7, 2) := by decide +kernel
theorem dX1_write_23 : decode cX1_write 23 = .ok (.iload_n 2, 1) := by decide +kernel
theorem dX1_write_24 : decode cX1_write 24 = .ok (.if_icmp .ge 59, 3) := by decide +kernel
theorem dX1_write_27 : decode cX1_write 27 = .ok (.iload 6, 2) := by decide +kernel
theorem dX1_write_29 : decode cX1_write 29 = .ok (.iload 4, 2) := by decide +kernel
theorem dX1_write_31 : decode cX1_write 31 = .ok (.if_icmp .gt 52, 3) := by decide +kernel
theorem dX1_write_34 : decode cX1_write 34 = .ok (.aload_n 0, 1) := by decide +kernel
theorem dX1_write_35 : decode cX1_write 35 = .ok (.iload 4, 2) := by decide +kernel
theorem dX1_write_37 : decode cX1_write 37 = .ok (.iload 6, 2) := by decide +kernel
theorem dX1_write_39 : decode cX1_write 39 = .ok (.isub, 1) := by decide +kernel
theorem dX1_write_40 : decode cX1_write 40 = .ok (.iload 6, 2) := by decide +kernel
theorem dX1_write_42 : decode cX1_write 42 = .ok (.invokevirtual 15, 3) := by decide +kernel
theorem dX1_write_45 : decode cX1_write 45 = .ok (.istore 8, 2) := by decide +kernel
theorem dX1_write_47 : decode cX1_write 47 = .ok (.iload 5, 2) := by decide +kernel
theorem dX1_write_49 : decode cX1_write 49 = .ok (.iload 8, 2) := by decide +kernel
theorem dX1_write_51 : decode cX1_write 51 = .ok (.if_icmp .lt 13, 3) := by decide +kernel
theorem dX1_write_54 : decode cX1_write 54 = .ok (.iload 5, 2) := by decide +kernel
theorem dX1_write_56 : decode cX1_write 56 = .ok (.iload 8, 2) := by decide +kernel
theorem dX1_write_58 : decode cX1_write 58 = .ok (.isub, 1) := by decide +kernel
theorem dX1_write_59 : decode cX1_write 59 = .ok (.istore 5, 2) := by decide +kernel
theorem dX1_write_61 : decode cX1_write 61 = .ok (.goto 22, 3) := by decide +kernel
theorem dX1_write_64 : decode cX1_write 64 = .ok (.aload_n 1, 1) := by decide +kernel
theorem dX1_write_65 : decode cX1_write 65 = .ok (.iload 6, 2) := by decide +kernel
theorem dX1_write_67 : decode cX1_write 67 = .ok (.invokevirtual 35, 3) := by decide +kernel
theorem dX1_write_70 : decode cX1_write 70 = .ok (.iload 4, 2) := by decide +kernel
theorem dX1_write_72 : decode cX1_write 72 = .ok (.iload 6, 2) := by decide +kernel
theorem dX1_write_74 : decode cX1_write 74 = .ok (.isub, 1) := by decide +kernel
theorem dX1_write_75 : decode cX1_write 75 = .ok (.istore 4, 2) := by decide +kernel
theorem dX1_write_77 : decode cX1_write 77 = .ok (.iinc 7 1, 3) := by decide +kernel
theorem dX1_write_80 : decode cX1_write 80 = .ok (.goto (-59), 3) := by decide +kernel
theorem dX1_write_83 : decode cX1_write 83 = .ok (.iinc 6 (-1), 3) := by decide +kernel
theorem dX1_write_86 : decode cX1_write 86 = .ok (.goto (-73), 3) := by decide +kernel
theorem dX1_write_89 : decode cX1_write 89 = .ok (.return_, 1) := by decide +kernel
theorem dX3_init_0 : decode cX3_init 0 = .ok (.aload_n 0, 1) := by decide +kernel
theorem dX3_init_1 : decode cX3_init 1 = .ok (.invokespecial 3, 3) := by decide +kernel
theorem dX3_init_4 : decode cX3_init 4 = .ok (.aload_n 0, 1) := by decide +kernel
theorem dX3_init_5 : decode cX3_init 5 = .ok (.bipush 18, 2) := by decide +kernel
theorem dX3_init_7 : decode cX3_init 7 = .ok (.newarray .int, 2) := by decide +kernel
theorem dX3_init_9 : decode cX3_init 9 = .ok (.putfield 9, 3) := by decide +kernel
theorem dX3_init_12 : decode cX3_init 12 = .ok (.return_, 1) := by decide +kernel
theorem dX3_clear_0 : decode cX3_clear 0 = .ok (.aload_n 0, 1) := by decide +kernel
theorem dX3_clear_1 : decode cX3_clear 1 = .ok (.iconst 0, 1) := by decide +kernel
theorem dX3_clear_2 : decode cX3_clear 2 = .ok (.putfield 15, 3) := by decide +kernel
theorem dX3_clear_5 : decode cX3_clear 5 = .ok (.aload_n 0, 1) := by decide +kernel
theorem dX3_clear_6 : decode cX3_clear 6 = .ok (.iconst 0, 1) := by decide +kernel
theorem dX3_clear_7 : decode cX3_clear 7 = .ok (.putfield 19, 3) := by decide +kernel
theorem dX3_clear_10 : decode cX3_clear 10 = .ok (.return_, 1) := by decide +kernel
theorem dX3_has_0 : decode cX3_has 0 = .ok (.iload_n 1, 1) := by decide +kernel
theorem dX3_has_1 : decode cX3_has 1 = .ok (.ifCond .lt 15, 3) := by decide +kernel
theorem dX3_has_4 : decode cX3_has 4 = .ok (.iload_n 1, 1) := by decide +kernel
theorem dX3_has_5 : decode cX3_has 5 = .ok (.aload_n 0, 1) := by decide +kernel
theorem dX3_has_6 : decode cX3_has 6 = .ok (.getfield 15, 3) := by decide +kernel
theorem dX3_has_9 : decode cX3_has 9 = .ok (.if_icmp .ge 7, 3) := by decide +kernel
theorem dX3_has_12 : decode cX3_has 12 = .ok (.iconst 1, 1) := by decide +kernel
theorem dX3_has_13 : decode cX3_has 13 = .ok (.goto 4, 3) := by decide +kernel
theorem dX3_has_16 : decode cX3_has 16 = .ok (.iconst 0, 1) := by decide +kernel
theorem dX3_has_17 : decode cX3_has 17 = .ok (.ireturn, 1) := by decide +kernel
theorem dX3_heapAt_0 : decode cX3_heapAt 0 = .ok (.iload_n 1, 1) := by decide +kernel
theorem dX3_heapAt_1 : decode cX3_heapAt 1 = .ok (.ifCond .lt 20, 3) := by decide +kernel
theorem dX3_heapAt_4 : decode cX3_heapAt 4 = .ok (.iload_n 1, 1) := by decide +kernel
theorem dX3_heapAt_5 : decode cX3_heapAt 5 = .ok (.aload_n 0, 1) := by decide +kernel
theorem dX3_heapAt_6 : decode cX3_heapAt 6 = .ok (.getfield 15, 3) := by decide +kernel
theorem dX3_heapAt_9 : decode cX3_heapAt 9 = .ok (.if_icmp .ge 12, 3) := by decide +kernel
theorem dX3_heapAt_12 : decode cX3_heapAt 12 = .ok (.aload_n 0, 1) := by decide +kernel
theorem dX3_heapAt_13 : decode cX3_heapAt 13 = .ok (.getfield 9, 3) := by decide +kernel
theorem dX3_heapAt_16 : decode cX3_heapAt 16 = .ok (.iload_n 1, 1) := by decide +kernel
theorem dX3_heapAt_17 : decode cX3_heapAt 17 = .ok (.iaload, 1) := by decide +kernel
theorem dX3_heapAt_18 : decode cX3_heapAt 18 = .ok (.goto 4, 3) := by decide +kernel
theorem dX3_heapAt_21 : decode cX3_heapAt 21 = .ok (.iconst 0, 1) := by decide +kernel
theorem dX3_heapAt_22 : decode cX3_heapAt 22 = .ok (.ireturn, 1) := by decide +kernel
theorem dX3_hasRoomFor_0 : decode cX3_hasRoomFor 0 = .ok (.iload_n 1, 1) := by decide +kernel
theorem dX3_hasRoomFor_1 : decode cX3_hasRoomFor 1 = .ok (.bipush 18, 2) := by decide +kernel
theorem dX3_hasRoomFor_3 : decode cX3_hasRoomFor 3 = .ok (.aload_n 0, 1) := by decide +kernel
theorem dX3_hasRoomFor_4 : decode cX3_hasRoomFor 4 = .ok (.getfield 19, 3) := by decide +kernel
theorem dX3_hasRoomFor_7 : decode cX3_hasRoomFor 7 = .ok (.isub, 1) := by decide +kernel
theorem dX3_hasRoomFor_8 : decode cX3_hasRoomFor 8 = .ok (.if_icmp .gt 7, 3) := by decide +kernel
theorem dX3_hasRoomFor_11 : decode cX3_hasRoomFor 11 = .ok (.iconst 1, 1) := by decide +kernel
theorem dX3_hasRoomFor_12 : decode cX3_hasRoomFor 12 = .ok (.goto 4, 3) := by decide +kernel
theorem dX3_hasRoomFor_15 : decode cX3_hasRoomFor 15 = .ok (.iconst 0, 1) := by decide +kernel
theorem dX3_hasRoomFor_16 : decode cX3_hasRoomFor 16 = .ok (.ireturn, 1) := by decide +kernel
theorem dX3_put_0 : decode cX3_put 0 = .ok (.iload_n 1, 1) := by decide +kernel
theorem dX3_put_1 : decode cX3_put 1 = .ok (.iconst 1, 1) := by decide +kernel
theorem dX3_put_2 : decode cX3_put 2 = .ok (.if_icmp .lt 20, 3) := by decide +kernel
theorem dX3_put_5 : decode cX3_put 5 = .ok (.aload_n 0, 1) := by decide +kernel
theorem dX3_put_6 : decode cX3_put 6 = .ok (.iload_n 1, 1) := by decide +kernel
theorem dX3_put_7 : decode cX3_put 7 = .ok (.invokevirtual 22, 3) := by decide +kernel
theorem dX3_put_10 : decode cX3_put 10 = .ok (.ifCond .eq 12, 3) := by decide +kernel
theorem dX3_put_13 : decode cX3_put 13 = .ok (.aload_n 0, 1) := by decide +kernel
theorem dX3_put_14 : decode cX3_put 14 = .ok (.getfield 15, 3) := by decide +kernel
theorem dX3_put_17 : decode cX3_put 17 = .ok (.bipush 18, 2) := by decide +kernel
theorem dX3_put_19 : decode cX3_put 19 = .ok (.if_icmp .lt 4, 3) := by decide +kernel
theorem dX3_put_22 : decode cX3_put 22 = .ok (.return_, 1) := by decide +kernel
theorem dX3_put_23 : decode cX3_put 23 = .ok (.aload_n 0, 1) := by decide +kernel
theorem dX3_put_24 : decode cX3_put 24 = .ok (.getfield 15, 3) := by decide +kernel
theorem dX3_put_27 : decode cX3_put 27 = .ok (.istore_n 2, 1) := by decide +kernel
theorem dX3_put_28 : decode cX3_put 28 = .ok (.iload_n 2, 1) := by decide +kernel
theorem dX3_put_29 : decode cX3_put 29 = .ok (.ifCond .le 35, 3) := by decide +kernel
theorem dX3_put_32 : decode cX3_put 32 = .ok (.aload_n 0, 1) := by decide +kernel
theorem dX3_put_33 : decode cX3_put 33 = .ok (.getfield 9, 3) := by decide +kernel
theorem dX3_put_36 : decode cX3_put 36 = .ok (.iload_n 2, 1) := by decide +kernel
theorem dX3_put_37 : decode cX3_put 37 = .ok (.iconst 1, 1) := by decide +kernel
theorem dX3_put_38 : decode cX3_put 38 = .ok (.isub, 1) := by decide +kernel
theorem dX3_put_39 : decode cX3_put 39 = .ok (.iaload, 1) := by decide +kernel
theorem dX3_put_40 : decode cX3_put 40 = .ok (.iload_n 1, 1) := by decide +kernel
theorem dX3_put_41 : decode cX3_put 41 = .ok (.if_icmp .ge 23, 3) := by decide +kernel
theorem dX3_put_44 : decode cX3_put 44 = .ok (.aload_n 0, 1) := by decide +kernel
theorem dX3_put_45 : decode cX3_put 45 = .ok (.getfield 9, 3) := by decide +kernel
theorem dX3_put_48 : decode cX3_put 48 = .ok (.iload_n 2, 1) := by decide +kernel
theorem dX3_put_49 : decode cX3_put 49 = .ok (.aload_n 0, 1) := by decide +kernel
theorem dX3_put_50 : decode cX3_put 50 = .ok (.getfield 9, 3) := by decide +kernel
theorem dX3_put_53 : decode cX3_put 53 = .ok (.iload_n 2, 1) := by decide +kernel
theorem dX3_put_54 : decode cX3_put 54 = .ok (.iconst 1, 1) := by decide +kernel
theorem dX3_put_55 : decode cX3_put 55 = .ok (.isub, 1) := by decide +kernel
theorem dX3_put_56 : decode cX3_put 56 = .ok (.iaload, 1) := by decide +kernel
theorem dX3_put_57 : decode cX3_put 57 = .ok (.iastore, 1) := by decide +kernel
theorem dX3_put_58 : decode cX3_put 58 = .ok (.iinc 2 (-1), 3) := by decide +kernel
theorem dX3_put_61 : decode cX3_put 61 = .ok (.goto (-33), 3) := by decide +kernel
theorem dX3_put_64 : decode cX3_put 64 = .ok (.aload_n 0, 1) := by decide +kernel
theorem dX3_put_65 : decode cX3_put 65 = .ok (.getfield 9, 3) := by decide +kernel
theorem dX3_put_68 : decode cX3_put 68 = .ok (.iload_n 2, 1) := by decide +kernel
theorem dX3_put_69 : decode cX3_put 69 = .ok (.iload_n 1, 1) := by decide +kernel
theorem dX3_put_70 : decode cX3_put 70 = .ok (.iastore, 1) := by decide +kernel
theorem dX3_put_71 : decode cX3_put 71 = .ok (.aload_n 0, 1) := by decide +kernel
theorem dX3_put_72 : decode cX3_put 72 = .ok (.dup, 1) := by decide +kernel
theorem dX3_put_73 : decode cX3_put 73 = .ok (.getfield 15, 3) := by decide +kernel
theorem dX3_put_76 : decode cX3_put 76 = .ok (.iconst 1, 1) := by decide +kernel
theorem dX3_put_77 : decode cX3_put 77 = .ok (.iadd, 1) := by decide +kernel
theorem dX3_put_78 : decode cX3_put 78 = .ok (.putfield 15, 3) := by decide +kernel
theorem dX3_put_81 : decode cX3_put 81 = .ok (.aload_n 0, 1) := by decide +kernel
theorem dX3_put_82 : decode cX3_put 82 = .ok (.dup, 1) := by decide +kernel
theorem dX3_put_83 : decode cX3_put 83 = .ok (.getfield 19, 3) := by decide +kernel
theorem dX3_put_86 : decode cX3_put 86 = .ok (.iload_n 1, 1) := by decide +kernel
theorem dX3_put_87 : decode cX3_put 87 = .ok (.iadd, 1) := by decide +kernel
theorem dX3_put_88 : decode cX3_put 88 = .ok (.putfield 19, 3) := by decide +kernel
theorem dX3_put_91 : decode cX3_put 91 = .ok (.return_, 1) := by decide +kernel
theorem dX3_putPart_0 : decode cX3_putPart 0 = .ok (.iconst 0, 1) := by decide +kernel
theorem dX3_putPart_1 : decode cX3_putPart 1 = .ok (.istore 4, 2) := by decide +kernel
theorem dX3_putPart_3 : decode cX3_putPart 3 = .ok (.iload 4, 2) := by decide +kernel
theorem dX3_putPart_5 : decode cX3_putPart 5 = .ok (.iload_n 3, 1) := by decide +kernel
theorem dX3_putPart_6 : decode cX3_putPart 6 = .ok (.if_icmp .ge 21, 3) := by decide +kernel
theorem dX3_putPart_9 : decode cX3_putPart 9 = .ok (.aload_n 0, 1) := by decide +kernel
theorem dX3_putPart_10 : decode cX3_putPart 10 = .ok (.aload_n 1, 1) := by decide +kernel
theorem dX3_putPart_11 : decode cX3_putPart 11 = .ok (.iload_n 2, 1) := by decide +kernel
theorem dX3_putPart_12 : decode cX3_putPart 12 = .ok (.iload 4, 2) := by decide +kernel
theorem dX3_putPart_14 : decode cX3_putPart 14 = .ok (.iadd, 1) := by decide +kernel
theorem dX3_putPart_15 : decode cX3_putPart 15 = .ok (.invokevirtual 26, 3) := by decide +kernel
theorem dX3_putPart_18 : decode cX3_putPart 18 = .ok (.invokevirtual 30, 3) := by decide +kernel
theorem dX3_putPart_21 : decode cX3_putPart 21 = .ok (.iinc 4 1, 3) := by decide +kernel
theorem dX3_putPart_24 : decode cX3_putPart 24 = .ok (.goto (-21), 3) := by decide +kernel
theorem dX3_putPart_27 : decode cX3_putPart 27 = .ok (.return_, 1) := by decide +kernel
theorem dX3_drop_0 : decode cX3_drop 0 = .ok (.aload_n 0, 1) := by decide +kernel
theorem dX3_drop_1 : decode cX3_drop 1 = .ok (.iload_n 1, 1) := by decide +kernel
theorem dX3_drop_2 : decode cX3_drop 2 = .ok (.invokevirtual 34, 3) := by decide +kernel
theorem dX3_drop_5 : decode cX3_drop 5 = .ok (.ifCond .ne 5, 3) := by decide +kernel
theorem dX3_drop_8 : decode cX3_drop 8 = .ok (.iconst 0, 1) := by decide +kernel
theorem dX3_drop_9 : decode cX3_drop 9 = .ok (.ireturn, 1) := by decide +kernel
theorem dX3_drop_10 : decode cX3_drop 10 = .ok (.aload_n 0, 1) := by decide +kernel
theorem dX3_drop_11 : decode cX3_drop 11 = .ok (.getfield 9, 3) := by decide +kernel
theorem dX3_drop_14 : decode cX3_drop 14 = .ok (.iload_n 1, 1) := by decide +kernel
theorem dX3_drop_15 : decode cX3_drop 15 = .ok (.iaload, 1) := by decide +kernel
theorem dX3_drop_16 : decode cX3_drop 16 = .ok (.istore_n 2, 1) := by decide +kernel
theorem dX3_drop_17 : decode cX3_drop 17 = .ok (.iload_n 1, 1) := by decide +kernel
theorem dX3_drop_18 : decode cX3_drop 18 = .ok (.iconst 1, 1) := by decide +kernel
theorem dX3_drop_19 : decode cX3_drop 19 = .ok (.iadd, 1) := by decide +kernel
theorem dX3_drop_20 : decode cX3_drop 20 = .ok (.istore_n 3, 1) := by decide +kernel
theorem dX3_drop_21 : decode cX3_drop 21 = .ok (.iload_n 3, 1) := by decide +kernel
theorem dX3_drop_22 : decode cX3_drop 22 = .ok (.aload_n 0, 1) := by decide +kernel
theorem dX3_drop_23 : decode cX3_drop 23 = .ok (.getfield 15, 3) := by decide +kernel
theorem dX3_drop_26 : decode cX3_drop 26 = .ok (.if_icmp .ge 23, 3) := by decide +kernel
theorem dX3_drop_29 : decode cX3_drop 29 = .ok (.aload_n 0, 1) := by decide +kernel
theorem dX3_drop_30 : decode cX3_drop 30 = .ok (.getfield 9, 3) := by decide +kernel
theorem dX3_drop_33 : decode cX3_drop 33 = .ok (.iload_n 3, 1) := by decide +kernel
theorem dX3_drop_34 : decode cX3_drop 34 = .ok (.iconst 1, 1) := by decide +kernel
theorem dX3_drop_35 : decode cX3_drop 35 = .ok (.isub, 1) := by decide +kernel
theorem dX3_drop_36 : decode cX3_drop 36 = .ok (.aload_n 0, 1) := by decide +kernel
theorem dX3_drop_37 : decode cX3_drop 37 = .ok (.getfield 9, 3) := by decide +kernel
theorem dX3_drop_40 : decode cX3_drop 40 = .ok (.iload_n 3, 1) := by decide +kernel
theorem dX3_drop_41 : decode cX3_drop 41 = .ok (.iaload, 1) := by decide +kernel
theorem dX3_drop_42 : decode cX3_drop 42 = .ok (.iastore, 1) := by decide +kernel
theorem dX3_drop_43 : decode cX3_drop 43 = .ok (.iinc 3 1, 3) := by decide +kernel
theorem dX3_drop_46 : decode cX3_drop 46 = .ok (.goto (-25), 3) := by decide +kernel
theorem dX3_drop_49 : decode cX3_drop 49 = .ok (.aload_n 0, 1) := by decide +kernel
theorem dX3_drop_50 : decode cX3_drop 50 = .ok (.dup, 1) := by decide +kernel
theorem dX3_drop_51 : decode cX3_drop 51 = .ok (.getfield 15, 3) := by decide +kernel
theorem dX3_drop_54 : decode cX3_drop 54 = .ok (.iconst 1, 1) := by decide +kernel
theorem dX3_drop_55 : decode cX3_drop 55 = .ok (.isub, 1) := by decide +kernel
theorem dX3_drop_56 : decode cX3_drop 56 = .ok (.putfield 15, 3) := by decide +kernel
theorem dX3_drop_59 : decode cX3_drop 59 = .ok (.aload_n 0, 1) := by decide +kernel
theorem dX3_drop_60 : decode cX3_drop 60 = .ok (.dup, 1) := by decide +kernel
theorem dX3_drop_61 : decode cX3_drop 61 = .ok (.getfield 19, 3) := by decide +kernel
theorem dX3_drop_64 : decode cX3_drop 64 = .ok (.iload_n 2, 1) := by decide +kernel
theorem dX3_drop_65 : decode cX3_drop 65 = .ok (.isub, 1) := by decide +kernel
theorem dX3_drop_66 : decode cX3_drop 66 = .ok (.putfield 19, 3) := by decide +kernel
theorem dX3_drop_69 : decode cX3_drop 69 = .ok (.iload_n 2, 1) := by decide +kernel
theorem dX3_drop_70 : decode cX3_drop 70 = .ok (.ireturn, 1) := by decide +kernel
theorem dX3_heapsFrom_0 : decode cX3_heapsFrom 0 = .ok (.iconst 0, 1) := by decide +kernel
theorem dX3_heapsFrom_1 : decode cX3_heapsFrom 1 = .ok (.istore_n 2, 1) := by decide +kernel
theorem dX3_heapsFrom_2 : decode cX3_heapsFrom 2 = .ok (.iconst 0, 1) := by decide +kernel
theorem dX3_heapsFrom_3 : decode cX3_heapsFrom 3 = .ok (.istore_n 3, 1) := by decide +kernel
theorem dX3_heapsFrom_4 : decode cX3_heapsFrom 4 = .ok (.iload_n 3, 1) := by decide +kernel
theorem dX3_heapsFrom_5 : decode cX3_heapsFrom 5 = .ok (.aload_n 0, 1) := by decide +kernel
theorem dX3_heapsFrom_6 : decode cX3_heapsFrom 6 = .ok (.getfield 15, 3) := by decide +kernel
theorem dX3_heapsFrom_9 : decode cX3_heapsFrom 9 = .ok (.if_icmp .ge 22, 3) := by decide +kernel
theorem dX3_heapsFrom_12 : decode cX3_heapsFrom 12 = .ok (.aload_n 0, 1) := by decide +kernel
theorem dX3_heapsFrom_13 : decode cX3_heapsFrom 13 = .ok (.getfield 9, 3) := by decide +kernel
theorem dX3_heapsFrom_16 : decode cX3_heapsFrom 16 = .ok (.iload_n 3, 1) := by decide +kernel
theorem dX3_heapsFrom_17 : decode cX3_heapsFrom 17 = .ok (.iaload, 1) := by decide +kernel
theorem dX3_heapsFrom_18 : decode cX3_heapsFrom 18 = .ok (.iload_n 1, 1) := by decide +kernel
theorem dX3_heapsFrom_19 : decode cX3_heapsFrom 19 = .ok (.if_icmp .lt 12, 3) := by decide +kernel
theorem dX3_heapsFrom_22 : decode cX3_heapsFrom 22 = .ok (.iinc 2 1, 3) := by decide +kernel
theorem dX3_heapsFrom_25 : decode cX3_heapsFrom 25 = .ok (.iinc 3 1, 3) := by decide +kernel
theorem dX3_heapsFrom_28 : decode cX3_heapsFrom 28 = .ok (.goto (-24), 3) := by decide +kernel
theorem dX3_heapsFrom_31 : decode cX3_heapsFrom 31 = .ok (.iload_n 2, 1) := by decide +kernel
theorem dX3_heapsFrom_32 : decode cX3_heapsFrom 32 = .ok (.ireturn, 1) := by decide +kernel
theorem dX3_unlikeHeaps_0 : decode cX3_unlikeHeaps 0 = .ok (.iconst 0, 1) := by decide +kernel
theorem dX3_unlikeHeaps_1 : decode cX3_unlikeHeaps 1 = .ok (.istore_n 1, 1) := by decide +kernel
theorem dX3_unlikeHeaps_2 : decode cX3_unlikeHeaps 2 = .ok (.iconst 0, 1) := by decide +kernel
theorem dX3_unlikeHeaps_3 : decode cX3_unlikeHeaps 3 = .ok (.istore_n 2, 1) := by decide +kernel
theorem dX3_unlikeHeaps_4 : decode cX3_unlikeHeaps 4 = .ok (.iload_n 2, 1) := by decide +kernel
theorem dX3_unlikeHeaps_5 : decode cX3_unlikeHeaps 5 = .ok (.aload_n 0, 1) := by decide +kernel
theorem dX3_unlikeHeaps_6 : decode cX3_unlikeHeaps 6 = .ok (.getfield 15, 3) := by decide +kernel
theorem dX3_unlikeHeaps_9 : decode cX3_unlikeHeaps 9 = .ok (.if_icmp .ge 38, 3) := by decide +kernel
theorem dX3_unlikeHeaps_12 : decode cX3_unlikeHeaps 12 = .ok (.iload_n 1, 1) := by decide +kernel
theorem dX3_unlikeHeaps_13 : decode cX3_unlikeHeaps 13 = .ok (.iload_n 2, 1) := by decide +kernel
theorem dX3_unlikeHeaps_14 : decode cX3_unlikeHeaps 14 = .ok (.ifCond .eq 20, 3) := by decide +kernel
theorem dX3_unlikeHeaps_17 : decode cX3_unlikeHeaps 17 = .ok (.aload_n 0, 1) := by decide +kernel
theorem dX3_unlikeHeaps_18 : decode cX3_unlikeHeaps 18 = .ok (.getfield 9, 3) := by decide +kernel
theorem dX3_unlikeHeaps_21 : decode cX3_unlikeHeaps 21 = .ok (.iload_n 2, 1) := by decide +kernel
theorem dX3_unlikeHeaps_22 : decode cX3_unlikeHeaps 22 = .ok (.iaload, 1) := by decide +kernel
theorem dX3_unlikeHeaps_23 : decode cX3_unlikeHeaps 23 = .ok (.aload_n 0, 1) := by decide +kernel
theorem dX3_unlikeHeaps_24 : decode cX3_unlikeHeaps 24 = .ok (.getfield 9, 3) := by decide +kernel
theorem dX3_unlikeHeaps_27 : decode cX3_unlikeHeaps 27 = .ok (.iload_n 2, 1) := by decide +kernel
theorem dX3_unlikeHeaps_28 : decode cX3_unlikeHeaps 28 = .ok (.iconst 1, 1) := by decide +kernel
theorem dX3_unlikeHeaps_29 : decode cX3_unlikeHeaps 29 = .ok (.isub, 1) := by decide +kernel
theorem dX3_unlikeHeaps_30 : decode cX3_unlikeHeaps 30 = .ok (.iaload, 1) := by decide +kernel
theorem dX3_unlikeHeaps_31 : decode cX3_unlikeHeaps 31 = .ok (.if_icmp .eq 7, 3) := by decide +kernel
theorem dX3_unlikeHeaps_34 : decode cX3_unlikeHeaps 34 = .ok (.iconst 1, 1) := by decide +kernel
theorem dX3_unlikeHeaps_35 : decode cX3_unlikeHeaps 35 = .ok (.goto 4, 3) := by decide +kernel
theorem dX3_unlikeHeaps_38 : decode cX3_unlikeHeaps 38 = .ok (.iconst 0, 1) := by decide +kernel
theorem dX3_unlikeHeaps_39 : decode cX3_unlikeHeaps 39 = .ok (.iadd, 1) := by decide +kernel
theorem dX3_unlikeHeaps_40 : decode cX3_unlikeHeaps 40 = .ok (.istore_n 1, 1) := by decide +kernel
theorem dX3_unlikeHeaps_41 : decode cX3_unlikeHeaps 41 = .ok (.iinc 2 1, 3) := by decide +kernel
theorem dX3_unlikeHeaps_44 : decode cX3_unlikeHeaps 44 = .ok (.goto (-40), 3) := by decide +kernel
theorem dX3_unlikeHeaps_47 : decode cX3_unlikeHeaps 47 = .ok (.iload_n 1, 1) := by decide +kernel
theorem dX3_unlikeHeaps_48 : decode cX3_unlikeHeaps 48 = .ok (.ireturn, 1) := by decide +kernel
theorem dX3_tallyInto_0 : decode cX3_tallyInto 0 = .ok (.aload_n 1, 1) := by decide +kernel
theorem dX3_tallyInto_1 : decode cX3_tallyInto 1 = .ok (.iconst 0, 1) := by decide +kernel
theorem dX3_tallyInto_2 : decode cX3_tallyInto 2 = .ok (.invokestatic 37, 3) := by decide +kernel
theorem dX3_tallyInto_5 : decode cX3_tallyInto 5 = .ok (.iconst 0, 1) := by decide +kernel
theorem dX3_tallyInto_6 : decode cX3_tallyInto 6 = .ok (.istore_n 2, 1) := by decide +kernel
theorem dX3_tallyInto_7 : decode cX3_tallyInto 7 = .ok (.iload_n 2, 1) := by decide +kernel
theorem dX3_tallyInto_8 : decode cX3_tallyInto 8 = .ok (.aload_n 0, 1) := by decide +kernel
theorem dX3_tallyInto_9 : decode cX3_tallyInto 9 = .ok (.getfield 15, 3) := by decide +kernel
theorem dX3_tallyInto_12 : decode cX3_tallyInto 12 = .ok (.if_icmp .ge 29, 3) := by decide +kernel
theorem dX3_tallyInto_15 : decode cX3_tallyInto 15 = .ok (.aload_n 0, 1) := by decide +kernel
theorem dX3_tallyInto_16 : decode cX3_tallyInto 16 = .ok (.getfield 9, 3) := by decide +kernel
theorem dX3_tallyInto_19 : decode cX3_tallyInto 19 = .ok (.iload_n 2, 1) := by decide +kernel
theorem dX3_tallyInto_20 : decode cX3_tallyInto 20 = .ok (.iaload, 1) := by decide +kernel
theorem dX3_tallyInto_21 : decode cX3_tallyInto 21 = .ok (.istore_n 3, 1) := by decide +kernel
theorem dX3_tallyInto_22 : decode cX3_tallyInto 22 = .ok (.iload_n 3, 1) := by decide +kernel
theorem dX3_tallyInto_23 : decode cX3_tallyInto 23 = .ok (.aload_n 1, 1) := by decide +kernel
theorem dX3_tallyInto_24 : decode cX3_tallyInto 24 = .ok (.arraylength, 1) := by decide +kernel
theorem dX3_tallyInto_25 : decode cX3_tallyInto 25 = .ok (.if_icmp .ge 10, 3) := by decide +kernel
theorem dX3_tallyInto_28 : decode cX3_tallyInto 28 = .ok (.aload_n 1, 1) := by decide +kernel
theorem dX3_tallyInto_29 : decode cX3_tallyInto 29 = .ok (.iload_n 3, 1) := by decide +kernel
theorem dX3_tallyInto_30 : decode cX3_tallyInto 30 = .ok (.dup2, 1) := by decide +kernel
theorem dX3_tallyInto_31 : decode cX3_tallyInto 31 = .ok (.iaload, 1) := by decide +kernel
theorem dX3_tallyInto_32 : decode cX3_tallyInto 32 = .ok (.iconst 1, 1) := by decide +kernel
theorem dX3_tallyInto_33 : decode cX3_tallyInto 33 = .ok (.iadd, 1) := by decide +kernel
theorem dX3_tallyInto_34 : decode cX3_tallyInto 34 = .ok (.iastore, 1) := by decide +kernel
theorem dX3_tallyInto_35 : decode cX3_tallyInto 35 = .ok (.iinc 2 1, 3) := by decide +kernel
theorem dX3_tallyInto_38 : decode cX3_tallyInto 38 = .ok (.goto (-31), 3) := by decide +kernel
theorem dX3_tallyInto_41 : decode cX3_tallyInto 41 = .ok (.return_, 1) := by decide +kernel
theorem dX3_digestOnto_0 : decode cX3_digestOnto 0 = .ok (.ldc2_w 43, 3) := by decide +kernel
theorem dX3_digestOnto_3 : decode cX3_digestOnto 3 = .ok (.lload_n 1, 1) := by decide +kernel
theorem dX3_digestOnto_4 : decode cX3_digestOnto 4 = .ok (.lmul, 1) := by decide +kernel
theorem dX3_digestOnto_5 : decode cX3_digestOnto 5 = .ok (.aload_n 0, 1) := by decide +kernel
theorem dX3_digestOnto_6 : decode cX3_digestOnto 6 = .ok (.getfield 15, 3) := by decide +kernel
theorem dX3_digestOnto_9 : decode cX3_digestOnto 9 = .ok (.i2l, 1) := by decide +kernel
theorem dX3_digestOnto_10 : decode cX3_digestOnto 10 = .ok (.ladd, 1) := by decide +kernel
theorem dX3_digestOnto_11 : decode cX3_digestOnto 11 = .ok (.lstore_n 3, 1) := by decide +kernel
theorem dX3_digestOnto_12 : decode cX3_digestOnto 12 = .ok (.iconst 0, 1) := by decide +kernel
theorem dX3_digestOnto_13 : decode cX3_digestOnto 13 = .ok (.istore 5, 2) := by decide +kernel
theorem dX3_digestOnto_15 : decode cX3_digestOnto 15 = .ok (.iload 5, 2) := by decide +kernel
theorem dX3_digestOnto_17 : decode cX3_digestOnto 17 = .ok (.aload_n 0, 1) := by decide +kernel
theorem dX3_digestOnto_18 : decode cX3_digestOnto 18 = .ok (.getfield 15, 3) := by decide +kernel
theorem dX3_digestOnto_21 : decode cX3_digestOnto 21 = .ok (.if_icmp .ge 24, 3) := by decide +kernel
theorem dX3_digestOnto_24 : decode cX3_digestOnto 24 = .ok (.ldc2_w 43, 3) := by decide +kernel
theorem dX3_digestOnto_27 : decode cX3_digestOnto 27 = .ok (.lload_n 3, 1) := by decide +kernel
theorem dX3_digestOnto_28 : decode cX3_digestOnto 28 = .ok (.lmul, 1) := by decide +kernel
theorem dX3_digestOnto_29 : decode cX3_digestOnto 29 = .ok (.aload_n 0, 1) := by decide +kernel
theorem dX3_digestOnto_30 : decode cX3_digestOnto 30 = .ok (.getfield 9, 3) := by decide +kernel
theorem dX3_digestOnto_33 : decode cX3_digestOnto 33 = .ok (.iload 5, 2) := by decide +kernel
theorem dX3_digestOnto_35 : decode cX3_digestOnto 35 = .ok (.iaload, 1) := by decide +kernel
theorem dX3_digestOnto_36 : decode cX3_digestOnto 36 = .ok (.i2l, 1) := by decide +kernel
theorem dX3_digestOnto_37 : decode cX3_digestOnto 37 = .ok (.ladd, 1) := by decide +kernel
theorem dX3_digestOnto_38 : decode cX3_digestOnto 38 = .ok (.lstore_n 3, 1) := by decide +kernel
theorem dX3_digestOnto_39 : decode cX3_digestOnto 39 = .ok (.iinc 5 1, 3) := by decide +kernel
theorem dX3_digestOnto_42 : decode cX3_digestOnto 42 = .ok (.goto (-27), 3) := by decide +kernel
theorem dX3_digestOnto_45 : decode cX3_digestOnto 45 = .ok (.lload_n 3, 1) := by decide +kernel
theorem dX3_digestOnto_46 : decode cX3_digestOnto 46 = .ok (.lreturn, 1) := by decide +kernel
theorem dJ7_fill_d0a16_0 : decode cJ7_fill_d0a16 0 = .ok (.iconst 0, 1) := by decide +kernel
theorem dJ7_fill_d0a16_1 : decode cJ7_fill_d0a16 1 = .ok (.istore_n 3, 1) := by decide +kernel
theorem dJ7_fill_d0a16_2 : decode cJ7_fill_d0a16 2 = .ok (.aload_n 0, 1) := by decide +kernel
theorem dJ7_fill_d0a16_3 : decode cJ7_fill_d0a16 3 = .ok (.arraylength, 1) := by decide +kernel
theorem dJ7_fill_d0a16_4 : decode cJ7_fill_d0a16 4 = .ok (.istore 4, 2) := by decide +kernel
theorem dJ7_fill_d0a16_6 : decode cJ7_fill_d0a16 6 = .ok (.iload_n 3, 1) := by decide +kernel
theorem dJ7_fill_d0a16_7 : decode cJ7_fill_d0a16 7 = .ok (.iload 4, 2) := by decide +kernel
theorem dJ7_fill_d0a16_9 : decode cJ7_fill_d0a16 9 = .ok (.if_icmp .ge 13, 3) := by decide +kernel
theorem dJ7_fill_d0a16_12 : decode cJ7_fill_d0a16 12 = .ok (.aload_n 0, 1) := by decide +kernel
theorem dJ7_fill_d0a16_13 : decode cJ7_fill_d0a16 13 = .ok (.iload_n 3, 1) := by decide +kernel
theorem dJ7_fill_d0a16_14 : decode cJ7_fill_d0a16 14 = .ok (.lload_n 1, 1) := by decide +kernel
theorem dJ7_fill_d0a16_15 : decode cJ7_fill_d0a16 15 = .ok (.lastore, 1) := by decide +kernel
theorem dJ7_fill_d0a16_16 : decode cJ7_fill_d0a16 16 = .ok (.iinc 3 1, 3) := by decide +kernel
theorem dJ7_fill_d0a16_19 : decode cJ7_fill_d0a16 19 = .ok (.goto (-13), 3) := by decide +kernel
theorem dJ7_fill_d0a16_22 : decode cJ7_fill_d0a16 22 = .ok (.return_, 1) := by decide +kernel
theorem dJ7_fill_53178_0 : decode cJ7_fill_53178 0 = .ok (.iconst 0, 1) := by decide +kernel
theorem dJ7_fill_53178_1 : decode cJ7_fill_53178 1 = .ok (.istore_n 2, 1) := by decide +kernel
theorem dJ7_fill_53178_2 : decode cJ7_fill_53178 2 = .ok (.aload_n 0, 1) := by decide +kernel
theorem dJ7_fill_53178_3 : decode cJ7_fill_53178 3 = .ok (.arraylength, 1) := by decide +kernel
theorem dJ7_fill_53178_4 : decode cJ7_fill_53178 4 = .ok (.istore_n 3, 1) := by decide +kernel
theorem dJ7_fill_53178_5 : decode cJ7_fill_53178 5 = .ok (.iload_n 2, 1) := by decide +kernel
theorem dJ7_fill_53178_6 : decode cJ7_fill_53178 6 = .ok (.iload_n 3, 1) := by decide +kernel
theorem dJ7_fill_53178_7 : decode cJ7_fill_53178 7 = .ok (.if_icmp .ge 13, 3) := by decide +kernel
theorem dJ7_fill_53178_10 : decode cJ7_fill_53178 10 = .ok (.aload_n 0, 1) := by decide +kernel
theorem dJ7_fill_53178_11 : decode cJ7_fill_53178 11 = .ok (.iload_n 2, 1) := by decide +kernel
theorem dJ7_fill_53178_12 : decode cJ7_fill_53178 12 = .ok (.iload_n 1, 1) := by decide +kernel
theorem dJ7_fill_53178_13 : decode cJ7_fill_53178 13 = .ok (.iastore, 1) := by decide +kernel
theorem dJ7_fill_53178_14 : decode cJ7_fill_53178 14 = .ok (.iinc 2 1, 3) := by decide +kernel
theorem dJ7_fill_53178_17 : decode cJ7_fill_53178 17 = .ok (.goto (-12), 3) := by decide +kernel
theorem dJ7_fill_53178_20 : decode cJ7_fill_53178 20 = .ok (.return_, 1) := by decide +kernel
