theorem dX4_init_0 : decode cX4_init 0 = .ok (.aload_n 0, 1) := by decide +kernel
theorem dX4_init_1 : decode cX4_init 1 = .ok (.invokespecial 3, 3) := by decide +kernel
theorem dX4_init_4 : decode cX4_init 4 = .ok (.aload_n 0, 1) := by decide +kernel
theorem dX4_init_5 : decode cX4_init 5 = .ok (.bipush 12, 2) := by decide +kernel
theorem dX4_init_7 : decode cX4_init 7 = .ok (.anewarray 9, 3) := by decide +kernel
theorem dX4_init_10 : decode cX4_init 10 = .ok (.putfield 11, 3) := by decide +kernel
theorem dX4_init_13 : decode cX4_init 13 = .ok (.aload_n 0, 1) := by decide +kernel
theorem dX4_init_14 : decode cX4_init 14 = .ok (.bipush 12, 2) := by decide +kernel
theorem dX4_init_16 : decode cX4_init 16 = .ok (.newarray .boolean, 2) := by decide +kernel
theorem dX4_init_18 : decode cX4_init 18 = .ok (.putfield 15, 3) := by decide +kernel
theorem dX4_init_21 : decode cX4_init 21 = .ok (.aload_n 0, 1) := by decide +kernel
theorem dX4_init_22 : decode cX4_init 22 = .ok (.bipush 6, 2) := by decide +kernel
theorem dX4_init_24 : decode cX4_init 24 = .ok (.newarray .int, 2) := by decide +kernel
theorem dX4_init_26 : decode cX4_init 26 = .ok (.putfield 19, 3) := by decide +kernel
theorem dX4_init_29 : decode cX4_init 29 = .ok (.aload_n 0, 1) := by decide +kernel
theorem dX4_init_30 : decode cX4_init 30 = .ok (.new 23, 3) := by decide +kernel
theorem dX4_init_33 : decode cX4_init 33 = .ok (.dup, 1) := by decide +kernel
theorem dX4_init_34 : decode cX4_init 34 = .ok (.invokespecial 25, 3) := by decide +kernel
theorem dX4_init_37 : decode cX4_init 37 = .ok (.putfield 26, 3) := by decide +kernel
theorem dX4_init_40 : decode cX4_init 40 = .ok (.aload_n 0, 1) := by decide +kernel
theorem dX4_init_41 : decode cX4_init 41 = .ok (.new 30, 3) := by decide +kernel
theorem dX4_init_44 : decode cX4_init 44 = .ok (.dup, 1) := by decide +kernel
theorem dX4_init_45 : decode cX4_init 45 = .ok (.invokespecial 32, 3) := by decide +kernel
theorem dX4_init_48 : decode cX4_init 48 = .ok (.putfield 33, 3) := by decide +kernel
theorem dX4_init_51 : decode cX4_init 51 = .ok (.aload_n 0, 1) := by decide +kernel
theorem dX4_init_52 : decode cX4_init 52 = .ok (.bipush 76, 2) := by decide +kernel
theorem dX4_init_54 : decode cX4_init 54 = .ok (.anewarray 37, 3) := by decide +kernel
theorem dX4_init_57 : decode cX4_init 57 = .ok (.putfield 39, 3) := by decide +kernel
theorem dX4_init_60 : decode cX4_init 60 = .ok (.aload_n 0, 1) := by decide +kernel
theorem dX4_init_61 : decode cX4_init 61 = .ok (.new 9, 3) := by decide +kernel
theorem dX4_init_64 : decode cX4_init 64 = .ok (.dup, 1) := by decide +kernel
theorem dX4_init_65 : decode cX4_init 65 = .ok (.invokespecial 43, 3) := by decide +kernel
theorem dX4_init_68 : decode cX4_init 68 = .ok (.putfield 44, 3) := by decide +kernel
theorem dX4_init_71 : decode cX4_init 71 = .ok (.aload_n 0, 1) := by decide +kernel
theorem dX4_init_72 : decode cX4_init 72 = .ok (.new 9, 3) := by decide +kernel
theorem dX4_init_75 : decode cX4_init 75 = .ok (.dup, 1) := by decide +kernel
theorem dX4_init_76 : decode cX4_init 76 = .ok (.invokespecial 43, 3) := by decide +kernel
theorem dX4_init_79 : decode cX4_init 79 = .ok (.putfield 48, 3) := by decide +kernel
theorem dX4_init_82 : decode cX4_init 82 = .ok (.iconst 0, 1) := by decide +kernel
theorem dX4_init_83 : decode cX4_init 83 = .ok (.istore_n 1, 1) := by decide +kernel
theorem dX4_init_84 : decode cX4_init 84 = .ok (.iload_n 1, 1) := by decide +kernel
theorem dX4_init_85 : decode cX4_init 85 = .ok (.bipush 12, 2) := by decide +kernel
theorem dX4_init_87 : decode cX4_init 87 = .ok (.if_icmp .ge 22, 3) := by decide +kernel
theorem dX4_init_90 : decode cX4_init 90 = .ok (.aload_n 0, 1) := by decide +kernel
theorem dX4_init_91 : decode cX4_init 91 = .ok (.getfield 11, 3) := by decide +kernel
theorem dX4_init_94 : decode cX4_init 94 = .ok (.iload_n 1, 1) := by decide +kernel
theorem dX4_init_95 : decode cX4_init 95 = .ok (.new 9, 3) := by decide +kernel
theorem dX4_init_98 : decode cX4_init 98 = .ok (.dup, 1) := by decide +kernel
theorem dX4_init_99 : decode cX4_init 99 = .ok (.invokespecial 43, 3) := by decide +kernel
theorem dX4_init_102 : decode cX4_init 102 = .ok (.aastore, 1) := by decide +kernel
theorem dX4_init_103 : decode cX4_init 103 = .ok (.iinc 1 1, 3) := by decide +kernel
theorem dX4_init_106 : decode cX4_init 106 = .ok (.goto (-22), 3) := by decide +kernel
theorem dX4_init_109 : decode cX4_init 109 = .ok (.return_, 1) := by decide +kernel
theorem dX4_parting_0 : decode cX4_parting 0 = .ok (.iload_n 1, 1) := by decide +kernel
theorem dX4_parting_1 : decode cX4_parting 1 = .ok (.invokestatic 51, 3) := by decide +kernel
theorem dX4_parting_4 : decode cX4_parting 4 = .ok (.ifCond .ne 5, 3) := by decide +kernel
theorem dX4_parting_7 : decode cX4_parting 7 = .ok (.iconst (-1), 1) := by decide +kernel
theorem dX4_parting_8 : decode cX4_parting 8 = .ok (.ireturn, 1) := by decide +kernel
theorem dX4_parting_9 : decode cX4_parting 9 = .ok (.aload_n 0, 1) := by decide +kernel
theorem dX4_parting_10 : decode cX4_parting 10 = .ok (.getfield 15, 3) := by decide +kernel
theorem dX4_parting_13 : decode cX4_parting 13 = .ok (.iload_n 1, 1) := by decide +kernel
theorem dX4_parting_14 : decode cX4_parting 14 = .ok (.baload, 1) := by decide +kernel
theorem dX4_parting_15 : decode cX4_parting 15 = .ok (.ifCond .eq 7, 3) := by decide +kernel
theorem dX4_parting_18 : decode cX4_parting 18 = .ok (.iconst 1, 1) := by decide +kernel
theorem dX4_parting_19 : decode cX4_parting 19 = .ok (.goto 4, 3) := by decide +kernel
theorem dX4_parting_22 : decode cX4_parting 22 = .ok (.iconst 0, 1) := by decide +kernel
theorem dX4_parting_23 : decode cX4_parting 23 = .ok (.istore_n 2, 1) := by decide +kernel
theorem dX4_parting_24 : decode cX4_parting 24 = .ok (.aload_n 0, 1) := by decide +kernel
theorem dX4_parting_25 : decode cX4_parting 25 = .ok (.getfield 15, 3) := by decide +kernel
theorem dX4_parting_28 : decode cX4_parting 28 = .ok (.iload_n 1, 1) := by decide +kernel
theorem dX4_parting_29 : decode cX4_parting 29 = .ok (.iconst 1, 1) := by decide +kernel
theorem dX4_parting_30 : decode cX4_parting 30 = .ok (.bastore, 1) := by decide +kernel
theorem dX4_parting_31 : decode cX4_parting 31 = .ok (.aload_n 0, 1) := by decide +kernel
theorem dX4_parting_32 : decode cX4_parting 32 = .ok (.getfield 11, 3) := by decide +kernel
theorem dX4_parting_35 : decode cX4_parting 35 = .ok (.iload_n 1, 1) := by decide +kernel
theorem dX4_parting_36 : decode cX4_parting 36 = .ok (.aaload, 1) := by decide +kernel
theorem dX4_parting_37 : decode cX4_parting 37 = .ok (.invokevirtual 55, 3) := by decide +kernel
theorem dX4_parting_40 : decode cX4_parting 40 = .ok (.iload_n 2, 1) := by decide +kernel
theorem dX4_parting_41 : decode cX4_parting 41 = .ok (.ireturn, 1) := by decide +kernel
theorem dX4_heap_0 : decode cX4_heap 0 = .ok (.iload_n 1, 1) := by decide +kernel
theorem dX4_heap_1 : decode cX4_heap 1 = .ok (.invokestatic 51, 3) := by decide +kernel
theorem dX4_heap_4 : decode cX4_heap 4 = .ok (.ifCond .eq 14, 3) := by decide +kernel
theorem dX4_heap_7 : decode cX4_heap 7 = .ok (.iload_n 2, 1) := by decide +kernel
theorem dX4_heap_8 : decode cX4_heap 8 = .ok (.iconst 1, 1) := by decide +kernel
theorem dX4_heap_9 : decode cX4_heap 9 = .ok (.if_icmp .lt 9, 3) := by decide +kernel
theorem dX4_heap_12 : decode cX4_heap 12 = .ok (.iload_n 2, 1) := by decide +kernel
theorem dX4_heap_13 : decode cX4_heap 13 = .ok (.bipush 18, 2) := by decide +kernel
theorem dX4_heap_15 : decode cX4_heap 15 = .ok (.if_icmp .le 5, 3) := by decide +kernel
theorem dX4_heap_18 : decode cX4_heap 18 = .ok (.iconst (-1), 1) := by decide +kernel
theorem dX4_heap_19 : decode cX4_heap 19 = .ok (.ireturn, 1) := by decide +kernel
theorem dX4_heap_20 : decode cX4_heap 20 = .ok (.aload_n 0, 1) := by decide +kernel
theorem dX4_heap_21 : decode cX4_heap 21 = .ok (.iload_n 1, 1) := by decide +kernel
theorem dX4_heap_22 : decode cX4_heap 22 = .ok (.invokevirtual 58, 3) := by decide +kernel
theorem dX4_heap_25 : decode cX4_heap 25 = .ok (.astore_n 3, 1) := by decide +kernel
theorem dX4_heap_26 : decode cX4_heap 26 = .ok (.aload_n 3, 1) := by decide +kernel
theorem dX4_heap_27 : decode cX4_heap 27 = .ok (.ifnonnull 9, 3) := by decide +kernel
theorem dX4_heap_30 : decode cX4_heap 30 = .ok (.aload_n 0, 1) := by decide +kernel
theorem dX4_heap_31 : decode cX4_heap 31 = .ok (.iconst 1, 1) := by decide +kernel
theorem dX4_heap_32 : decode cX4_heap 32 = .ok (.invokevirtual 62, 3) := by decide +kernel
theorem dX4_heap_35 : decode cX4_heap 35 = .ok (.ireturn, 1) := by decide +kernel
theorem dX4_heap_36 : decode cX4_heap 36 = .ok (.aload_n 3, 1) := by decide +kernel
theorem dX4_heap_37 : decode cX4_heap 37 = .ok (.iload_n 2, 1) := by decide +kernel
theorem dX4_heap_38 : decode cX4_heap 38 = .ok (.invokevirtual 66, 3) := by decide +kernel
theorem dX4_heap_41 : decode cX4_heap 41 = .ok (.ifCond .ne 6, 3) := by decide +kernel
theorem dX4_heap_44 : decode cX4_heap 44 = .ok (.bipush (-2), 2) := by decide +kernel
theorem dX4_heap_46 : decode cX4_heap 46 = .ok (.ireturn, 1) := by decide +kernel
theorem dX4_heap_47 : decode cX4_heap 47 = .ok (.aload_n 3, 1) := by decide +kernel
theorem dX4_heap_48 : decode cX4_heap 48 = .ok (.iload_n 2, 1) := by decide +kernel
theorem dX4_heap_49 : decode cX4_heap 49 = .ok (.invokevirtual 69, 3) := by decide +kernel
theorem dX4_heap_52 : decode cX4_heap 52 = .ok (.aload_n 3, 1) := by decide +kernel
theorem dX4_heap_53 : decode cX4_heap 53 = .ok (.getfield 73, 3) := by decide +kernel
theorem dX4_heap_56 : decode cX4_heap 56 = .ok (.ireturn, 1) := by decide +kernel
theorem dX4_at_0 : decode cX4_at 0 = .ok (.iload_n 1, 1) := by decide +kernel
theorem dX4_at_1 : decode cX4_at 1 = .ok (.invokestatic 51, 3) := by decide +kernel
theorem dX4_at_4 : decode cX4_at 4 = .ok (.ifCond .ne 5, 3) := by decide +kernel
theorem dX4_at_7 : decode cX4_at 7 = .ok (.iconst (-1), 1) := by decide +kernel
theorem dX4_at_8 : decode cX4_at 8 = .ok (.ireturn, 1) := by decide +kernel
theorem dX4_at_9 : decode cX4_at 9 = .ok (.aload_n 0, 1) := by decide +kernel
theorem dX4_at_10 : decode cX4_at 10 = .ok (.iload_n 1, 1) := by decide +kernel
theorem dX4_at_11 : decode cX4_at 11 = .ok (.invokevirtual 58, 3) := by decide +kernel
theorem dX4_at_14 : decode cX4_at 14 = .ok (.astore_n 3, 1) := by decide +kernel
theorem dX4_at_15 : decode cX4_at 15 = .ok (.aload_n 3, 1) := by decide +kernel
theorem dX4_at_16 : decode cX4_at 16 = .ok (.ifnonnull 9, 3) := by decide +kernel
theorem dX4_at_19 : decode cX4_at 19 = .ok (.aload_n 0, 1) := by decide +kernel
theorem dX4_at_20 : decode cX4_at 20 = .ok (.iconst 1, 1) := by decide +kernel
theorem dX4_at_21 : decode cX4_at 21 = .ok (.invokevirtual 62, 3) := by decide +kernel
theorem dX4_at_24 : decode cX4_at 24 = .ok (.ireturn, 1) := by decide +kernel
theorem dX4_at_25 : decode cX4_at 25 = .ok (.iload_n 2, 1) := by decide +kernel
theorem dX4_at_26 : decode cX4_at 26 = .ok (.iconst (-1), 1) := by decide +kernel
theorem dX4_at_27 : decode cX4_at 27 = .ok (.if_icmp .ne 8, 3) := by decide +kernel
theorem dX4_at_30 : decode cX4_at 30 = .ok (.aload_n 3, 1) := by decide +kernel
theorem dX4_at_31 : decode cX4_at 31 = .ok (.getfield 73, 3) := by decide +kernel
theorem dX4_at_34 : decode cX4_at 34 = .ok (.ireturn, 1) := by decide +kernel
theorem dX4_at_35 : decode cX4_at 35 = .ok (.aload_n 3, 1) := by decide +kernel
theorem dX4_at_36 : decode cX4_at 36 = .ok (.iload_n 2, 1) := by decide +kernel
theorem dX4_at_37 : decode cX4_at 37 = .ok (.invokevirtual 77, 3) := by decide +kernel
theorem dX4_at_40 : decode cX4_at 40 = .ok (.ifCond .eq 11, 3) := by decide +kernel
theorem dX4_at_43 : decode cX4_at 43 = .ok (.aload_n 3, 1) := by decide +kernel
theorem dX4_at_44 : decode cX4_at 44 = .ok (.iload_n 2, 1) := by decide +kernel
theorem dX4_at_45 : decode cX4_at 45 = .ok (.invokevirtual 80, 3) := by decide +kernel
theorem dX4_at_48 : decode cX4_at 48 = .ok (.goto 8, 3) := by decide +kernel
theorem dX4_at_51 : decode cX4_at 51 = .ok (.aload_n 0, 1) := by decide +kernel
theorem dX4_at_52 : decode cX4_at 52 = .ok (.iconst 2, 1) := by decide +kernel
theorem dX4_at_53 : decode cX4_at 53 = .ok (.invokevirtual 62, 3) := by decide +kernel
theorem dX4_at_56 : decode cX4_at 56 = .ok (.ireturn, 1) := by decide +kernel
theorem dX4_take_0 : decode cX4_take 0 = .ok (.iload_n 1, 1) := by decide +kernel
theorem dX4_take_1 : decode cX4_take 1 = .ok (.invokestatic 51, 3) := by decide +kernel
theorem dX4_take_4 : decode cX4_take 4 = .ok (.ifCond .ne 5, 3) := by decide +kernel
theorem dX4_take_7 : decode cX4_take 7 = .ok (.iconst (-1), 1) := by decide +kernel
theorem dX4_take_8 : decode cX4_take 8 = .ok (.ireturn, 1) := by decide +kernel
theorem dX4_take_9 : decode cX4_take 9 = .ok (.aload_n 0, 1) := by decide +kernel
theorem dX4_take_10 : decode cX4_take 10 = .ok (.iload_n 1, 1) := by decide +kernel
theorem dX4_take_11 : decode cX4_take 11 = .ok (.invokevirtual 58, 3) := by decide +kernel
theorem dX4_take_14 : decode cX4_take 14 = .ok (.astore_n 3, 1) := by decide +kernel
theorem dX4_take_15 : decode cX4_take 15 = .ok (.aload_n 3, 1) := by decide +kernel
theorem dX4_take_16 : decode cX4_take 16 = .ok (.ifnonnull 9, 3) := by decide +kernel
theorem dX4_take_19 : decode cX4_take 19 = .ok (.aload_n 0, 1) := by decide +kernel
theorem dX4_take_20 : decode cX4_take 20 = .ok (.iconst 1, 1) := by decide +kernel
theorem dX4_take_21 : decode cX4_take 21 = .ok (.invokevirtual 62, 3) := by decide +kernel
theorem dX4_take_24 : decode cX4_take 24 = .ok (.ireturn, 1) := by decide +kernel
theorem dX4_take_25 : decode cX4_take 25 = .ok (.aload_n 3, 1) := by decide +kernel
theorem dX4_take_26 : decode cX4_take 26 = .ok (.iload_n 2, 1) := by decide +kernel
theorem dX4_take_27 : decode cX4_take 27 = .ok (.invokevirtual 77, 3) := by decide +kernel
theorem dX4_take_30 : decode cX4_take 30 = .ok (.ifCond .eq 11, 3) := by decide +kernel
theorem dX4_take_33 : decode cX4_take 33 = .ok (.aload_n 3, 1) := by decide +kernel
theorem dX4_take_34 : decode cX4_take 34 = .ok (.iload_n 2, 1) := by decide +kernel
theorem dX4_take_35 : decode cX4_take 35 = .ok (.invokevirtual 83, 3) := by decide +kernel
theorem dX4_take_38 : decode cX4_take 38 = .ok (.goto 8, 3) := by decide +kernel
theorem dX4_take_41 : decode cX4_take 41 = .ok (.aload_n 0, 1) := by decide +kernel
theorem dX4_take_42 : decode cX4_take 42 = .ok (.iconst 2, 1) := by decide +kernel
theorem dX4_take_43 : decode cX4_take 43 = .ok (.invokevirtual 62, 3) := by decide +kernel
theorem dX4_take_46 : decode cX4_take 46 = .ok (.ireturn, 1) := by decide +kernel
theorem dX4_tear_0 : decode cX4_tear 0 = .ok (.iload_n 1, 1) := by decide +kernel
theorem dX4_tear_1 : decode cX4_tear 1 = .ok (.invokestatic 51, 3) := by decide +kernel
theorem dX4_tear_4 : decode cX4_tear 4 = .ok (.ifCond .ne 5, 3) := by decide +kernel
theorem dX4_tear_7 : decode cX4_tear 7 = .ok (.iconst (-1), 1) := by decide +kernel
theorem dX4_tear_8 : decode cX4_tear 8 = .ok (.ireturn, 1) := by decide +kernel
theorem dX4_tear_9 : decode cX4_tear 9 = .ok (.aload_n 0, 1) := by decide +kernel
theorem dX4_tear_10 : decode cX4_tear 10 = .ok (.getfield 15, 3) := by decide +kernel
theorem dX4_tear_13 : decode cX4_tear 13 = .ok (.iload_n 1, 1) := by decide +kernel
theorem dX4_tear_14 : decode cX4_tear 14 = .ok (.baload, 1) := by decide +kernel
theorem dX4_tear_15 : decode cX4_tear 15 = .ok (.ifCond .ne 9, 3) := by decide +kernel
theorem dX4_tear_18 : decode cX4_tear 18 = .ok (.aload_n 0, 1) := by decide +kernel
theorem dX4_tear_19 : decode cX4_tear 19 = .ok (.iconst 1, 1) := by decide +kernel
theorem dX4_tear_20 : decode cX4_tear 20 = .ok (.invokevirtual 62, 3) := by decide +kernel
theorem dX4_tear_23 : decode cX4_tear 23 = .ok (.ireturn, 1) := by decide +kernel
theorem dX4_tear_24 : decode cX4_tear 24 = .ok (.aload_n 0, 1) := by decide +kernel
theorem dX4_tear_25 : decode cX4_tear 25 = .ok (.getfield 15, 3) := by decide +kernel
theorem dX4_tear_28 : decode cX4_tear 28 = .ok (.iload_n 1, 1) := by decide +kernel
theorem dX4_tear_29 : decode cX4_tear 29 = .ok (.iconst 0, 1) := by decide +kernel
theorem dX4_tear_30 : decode cX4_tear 30 = .ok (.bastore, 1) := by decide +kernel
theorem dX4_tear_31 : decode cX4_tear 31 = .ok (.iconst 1, 1) := by decide +kernel
theorem dX4_tear_32 : decode cX4_tear 32 = .ok (.ireturn, 1) := by decide +kernel
theorem dX4_copy_0 : decode cX4_copy 0 = .ok (.iload_n 1, 1) := by decide +kernel
theorem dX4_copy_1 : decode cX4_copy 1 = .ok (.invokestatic 51, 3) := by decide +kernel
theorem dX4_copy_4 : decode cX4_copy 4 = .ok (.ifCond .eq 11, 3) := by decide +kernel
theorem dX4_copy_7 : decode cX4_copy 7 = .ok (.iload 4, 2) := by decide +kernel
theorem dX4_copy_9 : decode cX4_copy 9 = .ok (.invokestatic 51, 3) := by decide +kernel
theorem dX4_copy_12 : decode cX4_copy 12 = .ok (.ifCond .ne 5, 3) := by decide +kernel
theorem dX4_copy_15 : decode cX4_copy 15 = .ok (.iconst (-1), 1) := by decide +kernel
theorem dX4_copy_16 : decode cX4_copy 16 = .ok (.ireturn, 1) := by decide +kernel
theorem dX4_copy_17 : decode cX4_copy 17 = .ok (.iload_n 3, 1) := by decide +kernel
theorem dX4_copy_18 : decode cX4_copy 18 = .ok (.ifCond .ge 9, 3) := by decide +kernel
theorem dX4_copy_21 : decode cX4_copy 21 = .ok (.aload_n 0, 1) := by decide +kernel
theorem dX4_copy_22 : decode cX4_copy 22 = .ok (.iconst 5, 1) := by decide +kernel
theorem dX4_copy_23 : decode cX4_copy 23 = .ok (.invokevirtual 62, 3) := by decide +kernel
theorem dX4_copy_26 : decode cX4_copy 26 = .ok (.ireturn, 1) := by decide +kernel
theorem dX4_copy_27 : decode cX4_copy 27 = .ok (.aload_n 0, 1) := by decide +kernel
theorem dX4_copy_28 : decode cX4_copy 28 = .ok (.iload_n 1, 1) := by decide +kernel
theorem dX4_copy_29 : decode cX4_copy 29 = .ok (.invokevirtual 58, 3) := by decide +kernel
theorem dX4_copy_32 : decode cX4_copy 32 = .ok (.astore 5, 2) := by decide +kernel
theorem dX4_copy_34 : decode cX4_copy 34 = .ok (.aload_n 0, 1) := by decide +kernel
theorem dX4_copy_35 : decode cX4_copy 35 = .ok (.iload 4, 2) := by decide +kernel
theorem dX4_copy_37 : decode cX4_copy 37 = .ok (.invokevirtual 58, 3) := by decide +kernel
theorem dX4_copy_40 : decode cX4_copy 40 = .ok (.astore 6, 2) := by decide +kernel
theorem dX4_copy_42 : decode cX4_copy 42 = .ok (.aload 5, 2) := by decide +kernel
theorem dX4_copy_44 : decode cX4_copy 44 = .ok (.ifnull 8, 3) := by decide +kernel
theorem dX4_copy_47 : decode cX4_copy 47 = .ok (.aload 6, 2) := by decide +kernel
theorem dX4_copy_49 : decode cX4_copy 49 = .ok (.ifnonnull 9, 3) := by decide +kernel
theorem dX4_copy_52 : decode cX4_copy 52 = .ok (.aload_n 0, 1) := by decide +kernel
theorem dX4_copy_53 : decode cX4_copy 53 = .ok (.iconst 1, 1) := by decide +kernel
theorem dX4_copy_54 : decode cX4_copy 54 = .ok (.invokevirtual 62, 3) := by decide +kernel
theorem dX4_copy_57 : decode cX4_copy 57 = .ok (.ireturn, 1) := by decide +kernel
theorem dX4_copy_58 : decode cX4_copy 58 = .ok (.iload_n 2, 1) := by decide +kernel
theorem dX4_copy_59 : decode cX4_copy 59 = .ok (.ifCond .lt 23, 3) := by decide +kernel
theorem dX4_copy_62 : decode cX4_copy 62 = .ok (.iload_n 2, 1) := by decide +kernel
theorem dX4_copy_63 : decode cX4_copy 63 = .ok (.aload 5, 2) := by decide +kernel
theorem dX4_copy_65 : decode cX4_copy 65 = .ok (.getfield 73, 3) := by decide +kernel
theorem dX4_copy_68 : decode cX4_copy 68 = .ok (.if_icmp .gt 14, 3) := by decide +kernel
theorem dX4_copy_71 : decode cX4_copy 71 = .ok (.iload_n 3, 1) := by decide +kernel
theorem dX4_copy_72 : decode cX4_copy 72 = .ok (.aload 5, 2) := by decide +kernel
theorem dX4_copy_74 : decode cX4_copy 74 = .ok (.getfield 73, 3) := by decide +kernel
theorem dX4_copy_77 : decode cX4_copy 77 = .ok (.iload_n 2, 1) := by decide +kernel
theorem dX4_copy_78 : decode cX4_copy 78 = .ok (.isub, 1) := by decide +kernel
theorem dX4_copy_79 : decode cX4_copy 79 = .ok (.if_icmp .le 9, 3) := by decide +kernel
theorem dX4_copy_82 : decode cX4_copy 82 = .ok (.aload_n 0, 1) := by decide +kernel
theorem dX4_copy_83 : decode cX4_copy 83 = .ok (.iconst 2, 1) := by decide +kernel
theorem dX4_copy_84 : decode cX4_copy 84 = .ok (.invokevirtual 62, 3) := by decide +kernel
theorem dX4_copy_87 : decode cX4_copy 87 = .ok (.ireturn, 1) := by decide +kernel
theorem dX4_copy_88 : decode cX4_copy 88 = .ok (.aload_n 0, 1) := by decide +kernel
theorem dX4_copy_89 : decode cX4_copy 89 = .ok (.getfield 44, 3) := by decide +kernel
theorem dX4_copy_92 : decode cX4_copy 92 = .ok (.invokevirtual 55, 3) := by decide +kernel
theorem dX4_copy_95 : decode cX4_copy 95 = .ok (.aload_n 0, 1) := by decide +kernel
theorem dX4_copy_96 : decode cX4_copy 96 = .ok (.getfield 44, 3) := by decide +kernel
theorem dX4_copy_99 : decode cX4_copy 99 = .ok (.aload 5, 2) := by decide +kernel
theorem dX4_copy_101 : decode cX4_copy 101 = .ok (.iload_n 2, 1) := by decide +kernel
theorem dX4_copy_102 : decode cX4_copy 102 = .ok (.iload_n 3, 1) := by decide +kernel
theorem dX4_copy_103 : decode cX4_copy 103 = .ok (.invokevirtual 86, 3) := by decide +kernel
theorem dX4_copy_106 : decode cX4_copy 106 = .ok (.aload 6, 2) := by decide +kernel
theorem dX4_copy_108 : decode cX4_copy 108 = .ok (.aload_n 0, 1) := by decide +kernel
theorem dX4_copy_109 : decode cX4_copy 109 = .ok (.getfield 44, 3) := by decide +kernel
theorem dX4_copy_112 : decode cX4_copy 112 = .ok (.getfield 90, 3) := by decide +kernel
theorem dX4_copy_115 : decode cX4_copy 115 = .ok (.invokevirtual 66, 3) := by decide +kernel
theorem dX4_copy_118 : decode cX4_copy 118 = .ok (.ifCond .ne 6, 3) := by decide +kernel
theorem dX4_copy_121 : decode cX4_copy 121 = .ok (.bipush (-2), 2) := by decide +kernel
theorem dX4_copy_123 : decode cX4_copy 123 = .ok (.ireturn, 1) := by decide +kernel
theorem dX4_copy_124 : decode cX4_copy 124 = .ok (.aload 6, 2) := by decide +kernel
theorem dX4_copy_126 : decode cX4_copy 126 = .ok (.aload_n 0, 1) := by decide +kernel
theorem dX4_copy_127 : decode cX4_copy 127 = .ok (.getfield 44, 3) := by decide +kernel
theorem dX4_copy_130 : decode cX4_copy 130 = .ok (.iconst 0, 1) := by decide +kernel
theorem dX4_copy_131 : decode cX4_copy 131 = .ok (.aload_n 0, 1) := by decide +kernel
theorem dX4_copy_132 : decode cX4_copy 132 = .ok (.getfield 44, 3) := by decide +kernel
theorem dX4_copy_135 : decode cX4_copy 135 = .ok (.getfield 73, 3) := by decide +kernel
theorem dX4_copy_138 : decode cX4_copy 138 = .ok (.invokevirtual 86, 3) := by decide +kernel
theorem dX4_copy_141 : decode cX4_copy 141 = .ok (.aload 6, 2) := by decide +kernel
theorem dX4_copy_143 : decode cX4_copy 143 = .ok (.getfield 73, 3) := by decide +kernel
theorem dX4_copy_146 : decode cX4_copy 146 = .ok (.ireturn, 1) := by decide +kernel
theorem dX4_rule_0 : decode cX4_rule 0 = .ok (.iload_n 1, 1) := by decide +kernel
theorem dX4_rule_1 : decode cX4_rule 1 = .ok (.ifCond .lt 8, 3) := by decide +kernel
theorem dX4_rule_4 : decode cX4_rule 4 = .ok (.iload_n 1, 1) := by decide +kernel
theorem dX4_rule_5 : decode cX4_rule 5 = .ok (.iconst 4, 1) := by decide +kernel
theorem dX4_rule_6 : decode cX4_rule 6 = .ok (.if_icmp .lt 5, 3) := by decide +kernel
theorem dX4_rule_9 : decode cX4_rule 9 = .ok (.iconst (-1), 1) := by decide +kernel
theorem dX4_rule_10 : decode cX4_rule 10 = .ok (.ireturn, 1) := by decide +kernel
theorem dX4_rule_11 : decode cX4_rule 11 = .ok (.aload_n 0, 1) := by decide +kernel
theorem dX4_rule_12 : decode cX4_rule 12 = .ok (.getfield 93, 3) := by decide +kernel
theorem dX4_rule_15 : decode cX4_rule 15 = .ok (.istore_n 2, 1) := by decide +kernel
theorem dX4_rule_16 : decode cX4_rule 16 = .ok (.aload_n 0, 1) := by decide +kernel
theorem dX4_rule_17 : decode cX4_rule 17 = .ok (.iload_n 1, 1) := by decide +kernel
theorem dX4_rule_18 : decode cX4_rule 18 = .ok (.putfield 93, 3) := by decide +kernel
theorem dX4_rule_21 : decode cX4_rule 21 = .ok (.iload_n 2, 1) := by decide +kernel
theorem dX4_rule_22 : decode cX4_rule 22 = .ok (.ireturn, 1) := by decide +kernel
theorem dX4_kind_0 : decode cX4_kind 0 = .ok (.iload_n 1, 1) := by decide +kernel
theorem dX4_kind_1 : decode cX4_kind 1 = .ok (.invokestatic 51, 3) := by decide +kernel
theorem dX4_kind_4 : decode cX4_kind 4 = .ok (.ifCond .ne 5, 3) := by decide +kernel
theorem dX4_kind_7 : decode cX4_kind 7 = .ok (.iconst (-1), 1) := by decide +kernel
theorem dX4_kind_8 : decode cX4_kind 8 = .ok (.ireturn, 1) := by decide +kernel
theorem dX4_kind_9 : decode cX4_kind 9 = .ok (.aload_n 0, 1) := by decide +kernel
theorem dX4_kind_10 : decode cX4_kind 10 = .ok (.iload_n 1, 1) := by decide +kernel
theorem dX4_kind_11 : decode cX4_kind 11 = .ok (.invokevirtual 58, 3) := by decide +kernel
theorem dX4_kind_14 : decode cX4_kind 14 = .ok (.astore_n 2, 1) := by decide +kernel
theorem dX4_kind_15 : decode cX4_kind 15 = .ok (.aload_n 2, 1) := by decide +kernel
theorem dX4_kind_16 : decode cX4_kind 16 = .ok (.ifnonnull 9, 3) := by decide +kernel
theorem dX4_kind_19 : decode cX4_kind 19 = .ok (.aload_n 0, 1) := by decide +kernel
theorem dX4_kind_20 : decode cX4_kind 20 = .ok (.iconst 1, 1) := by decide +kernel
theorem dX4_kind_21 : decode cX4_kind 21 = .ok (.invokevirtual 62, 3) := by decide +kernel
theorem dX4_kind_24 : decode cX4_kind 24 = .ok (.ireturn, 1) := by decide +kernel
theorem dX4_kind_25 : decode cX4_kind 25 = .ok (.aload_n 0, 1) := by decide +kernel
theorem dX4_kind_26 : decode cX4_kind 26 = .ok (.aload_n 2, 1) := by decide +kernel
theorem dX4_kind_27 : decode cX4_kind 27 = .ok (.getfield 90, 3) := by decide +kernel
theorem dX4_kind_30 : decode cX4_kind 30 = .ok (.invokevirtual 96, 3) := by decide +kernel
theorem dX4_kind_33 : decode cX4_kind 33 = .ok (.aload_n 0, 1) := by decide +kernel
theorem dX4_kind_34 : decode cX4_kind 34 = .ok (.getfield 26, 3) := by decide +kernel
theorem dX4_kind_37 : decode cX4_kind 37 = .ok (.aload_n 2, 1) := by decide +kernel
theorem dX4_kind_38 : decode cX4_kind 38 = .ok (.invokevirtual 100, 3) := by decide +kernel
theorem dX4_kind_41 : decode cX4_kind 41 = .ok (.invokevirtual 104, 3) := by decide +kernel
theorem dX4_kind_44 : decode cX4_kind 44 = .ok (.ireturn, 1) := by decide +kernel
theorem dX4_mark_0 : decode cX4_mark 0 = .ok (.iload_n 1, 1) := by decide +kernel
theorem dX4_mark_1 : decode cX4_mark 1 = .ok (.invokestatic 51, 3) := by decide +kernel
theorem dX4_mark_4 : decode cX4_mark 4 = .ok (.ifCond .eq 13, 3) := by decide +kernel
theorem dX4_mark_7 : decode cX4_mark 7 = .ok (.iload_n 2, 1) := by decide +kernel
theorem dX4_mark_8 : decode cX4_mark 8 = .ok (.iconst 1, 1) := by decide +kernel
theorem dX4_mark_9 : decode cX4_mark 9 = .ok (.if_icmp .lt 8, 3) := by decide +kernel
theorem dX4_mark_12 : decode cX4_mark 12 = .ok (.iload_n 2, 1) := by decide +kernel
theorem dX4_mark_13 : decode cX4_mark 13 = .ok (.iconst 3, 1) := by decide +kernel
theorem dX4_mark_14 : decode cX4_mark 14 = .ok (.if_icmp .le 5, 3) := by decide +kernel
theorem dX4_mark_17 : decode cX4_mark 17 = .ok (.iconst (-1), 1) := by decide +kernel
theorem dX4_mark_18 : decode cX4_mark 18 = .ok (.ireturn, 1) := by decide +kernel
theorem dX4_mark_19 : decode cX4_mark 19 = .ok (.aload_n 0, 1) := by decide +kernel
theorem dX4_mark_20 : decode cX4_mark 20 = .ok (.iload_n 1, 1) := by decide +kernel
theorem dX4_mark_21 : decode cX4_mark 21 = .ok (.invokevirtual 58, 3) := by decide +kernel
theorem dX4_mark_24 : decode cX4_mark 24 = .ok (.astore_n 3, 1) := by decide +kernel
theorem dX4_mark_25 : decode cX4_mark 25 = .ok (.aload_n 3, 1) := by decide +kernel
theorem dX4_mark_26 : decode cX4_mark 26 = .ok (.ifnonnull 9, 3) := by decide +kernel
theorem dX4_mark_29 : decode cX4_mark 29 = .ok (.aload_n 0, 1) := by decide +kernel
theorem dX4_mark_30 : decode cX4_mark 30 = .ok (.iconst 1, 1) := by decide +kernel
theorem dX4_mark_31 : decode cX4_mark 31 = .ok (.invokevirtual 62, 3) := by decide +kernel
theorem dX4_mark_34 : decode cX4_mark 34 = .ok (.ireturn, 1) := by decide +kernel
theorem dX4_mark_35 : decode cX4_mark 35 = .ok (.aload_n 0, 1) := by decide +kernel
theorem dX4_mark_36 : decode cX4_mark 36 = .ok (.aload_n 3, 1) := by decide +kernel
theorem dX4_mark_37 : decode cX4_mark 37 = .ok (.getfield 90, 3) := by decide +kernel
theorem dX4_mark_40 : decode cX4_mark 40 = .ok (.invokevirtual 96, 3) := by decide +kernel
theorem dX4_mark_43 : decode cX4_mark 43 = .ok (.astore 4, 2) := by decide +kernel
theorem dX4_mark_45 : decode cX4_mark 45 = .ok (.aload_n 0, 1) := by decide +kernel
theorem dX4_mark_46 : decode cX4_mark 46 = .ok (.getfield 26, 3) := by decide +kernel
theorem dX4_mark_49 : decode cX4_mark 49 = .ok (.aload_n 3, 1) := by decide +kernel
theorem dX4_mark_50 : decode cX4_mark 50 = .ok (.invokevirtual 100, 3) := by decide +kernel
theorem dX4_mark_53 : decode cX4_mark 53 = .ok (.istore 5, 2) := by decide +kernel
theorem dX4_mark_55 : decode cX4_mark 55 = .ok (.aload 4, 2) := by decide +kernel
theorem dX4_mark_57 : decode cX4_mark 57 = .ok (.iload 5, 2) := by decide +kernel
theorem dX4_mark_59 : decode cX4_mark 59 = .ok (.invokevirtual 104, 3) := by decide +kernel
theorem dX4_mark_62 : decode cX4_mark 62 = .ok (.istore 6, 2) := by decide +kernel
theorem dX4_mark_64 : decode cX4_mark 64 = .ok (.iload 6, 2) := by decide +kernel
theorem dX4_mark_66 : decode cX4_mark 66 = .ok (.iload_n 2, 1) := by decide +kernel
theorem dX4_mark_67 : decode cX4_mark 67 = .ok (.if_icmp .eq 14, 3) := by decide +kernel
theorem dX4_mark_70 : decode cX4_mark 70 = .ok (.iload 6, 2) := by decide +kernel
theorem dX4_mark_72 : decode cX4_mark 72 = .ok (.iconst 2, 1) := by decide +kernel
theorem dX4_mark_73 : decode cX4_mark 73 = .ok (.if_icmp .ne 12, 3) := by decide +kernel
theorem dX4_mark_76 : decode cX4_mark 76 = .ok (.iload_n 2, 1) := by decide +kernel
theorem dX4_mark_77 : decode cX4_mark 77 = .ok (.iconst 1, 1) := by decide +kernel
theorem dX4_mark_78 : decode cX4_mark 78 = .ok (.if_icmp .ne 7, 3) := by decide +kernel
theorem dX4_mark_81 : decode cX4_mark 81 = .ok (.iconst 1, 1) := by decide +kernel
theorem dX4_mark_82 : decode cX4_mark 82 = .ok (.goto 4, 3) := by decide +kernel
theorem dX4_mark_85 : decode cX4_mark 85 = .ok (.iconst 0, 1) := by decide +kernel
theorem dX4_mark_86 : decode cX4_mark 86 = .ok (.istore 7, 2) := by decide +kernel
theorem dX4_mark_88 : decode cX4_mark 88 = .ok (.iload 7, 2) := by decide +kernel
theorem dX4_mark_90 : decode cX4_mark 90 = .ok (.ifCond .ne 9, 3) := by decide +kernel
theorem dX4_mark_93 : decode cX4_mark 93 = .ok (.aload_n 0, 1) := by decide +kernel
theorem dX4_mark_94 : decode cX4_mark 94 = .ok (.iconst 3, 1) := by decide +kernel
theorem dX4_mark_95 : decode cX4_mark 95 = .ok (.invokevirtual 62, 3) := by decide +kernel
theorem dX4_mark_98 : decode cX4_mark 98 = .ok (.ireturn, 1) := by decide +kernel
theorem dX4_mark_99 : decode cX4_mark 99 = .ok (.iload_n 2, 1) := by decide +kernel
theorem dX4_mark_100 : decode cX4_mark 100 = .ok (.iconst 1, 1) := by decide +kernel
theorem dX4_mark_101 : decode cX4_mark 101 = .ok (.if_icmp .ne 11, 3) := by decide +kernel
theorem dX4_mark_104 : decode cX4_mark 104 = .ok (.aload 4, 2) := by decide +kernel
theorem dX4_mark_106 : decode cX4_mark 106 = .ok (.iload 5, 2) := by decide +kernel
theorem dX4_mark_108 : decode cX4_mark 108 = .ok (.invokevirtual 107, 3) := by decide +kernel
theorem dX4_mark_111 : decode cX4_mark 111 = .ok (.ireturn, 1) := by decide +kernel
theorem dX4_mark_112 : decode cX4_mark 112 = .ok (.iload_n 2, 1) := by decide +kernel
theorem dX4_mark_113 : decode cX4_mark 113 = .ok (.iconst 2, 1) := by decide +kernel
theorem dX4_mark_114 : decode cX4_mark 114 = .ok (.if_icmp .ne 8, 3) := by decide +kernel
theorem dX4_mark_117 : decode cX4_mark 117 = .ok (.iload 5, 2) := by decide +kernel
theorem dX4_mark_119 : decode cX4_mark 119 = .ok (.goto 10, 3) := by decide +kernel
theorem dX4_mark_122 : decode cX4_mark 122 = .ok (.aload 4, 2) := by decide +kernel
theorem dX4_mark_124 : decode cX4_mark 124 = .ok (.iload 5, 2) := by decide +kernel
theorem dX4_mark_126 : decode cX4_mark 126 = .ok (.invokevirtual 110, 3) := by decide +kernel
theorem dX4_mark_129 : decode cX4_mark 129 = .ok (.ireturn, 1) := by decide +kernel
theorem dX4_mean_0 : decode cX4_mean 0 = .ok (.iload_n 1, 1) := by decide +kernel
theorem dX4_mean_1 : decode cX4_mean 1 = .ok (.invokestatic 51, 3) := by decide +kernel
theorem dX4_mean_4 : decode cX4_mean 4 = .ok (.ifCond .ne 5, 3) := by decide +kernel
theorem dX4_mean_7 : decode cX4_mean 7 = .ok (.iconst (-1), 1) := by decide +kernel
theorem dX4_mean_8 : decode cX4_mean 8 = .ok (.ireturn, 1) := by decide +kernel
theorem dX4_mean_9 : decode cX4_mean 9 = .ok (.aload_n 0, 1) := by decide +kernel
theorem dX4_mean_10 : decode cX4_mean 10 = .ok (.iload_n 1, 1) := by decide +kernel
theorem dX4_mean_11 : decode cX4_mean 11 = .ok (.invokevirtual 58, 3) := by decide +kernel
theorem dX4_mean_14 : decode cX4_mean 14 = .ok (.astore_n 2, 1) := by decide +kernel
theorem dX4_mean_15 : decode cX4_mean 15 = .ok (.aload_n 2, 1) := by decide +kernel
theorem dX4_mean_16 : decode cX4_mean 16 = .ok (.ifnonnull 9, 3) := by decide +kernel
theorem dX4_mean_19 : decode cX4_mean 19 = .ok (.aload_n 0, 1) := by decide +kernel
theorem dX4_mean_20 : decode cX4_mean 20 = .ok (.iconst 1, 1) := by decide +kernel
theorem dX4_mean_21 : decode cX4_mean 21 = .ok (.invokevirtual 62, 3) := by decide +kernel
theorem dX4_mean_24 : decode cX4_mean 24 = .ok (.ireturn, 1) := by decide +kernel
theorem dX4_mean_25 : decode cX4_mean 25 = .ok (.aload_n 2, 1) := by decide +kernel
theorem dX4_mean_26 : decode cX4_mean 26 = .ok (.getfield 73, 3) := by decide +kernel
theorem dX4_mean_29 : decode cX4_mean 29 = .ok (.ifCond .le 15, 3) := by decide +kernel
theorem dX4_mean_32 : decode cX4_mean 32 = .ok (.aload_n 2, 1) := by decide +kernel
theorem dX4_mean_33 : decode cX4_mean 33 = .ok (.getfield 90, 3) := by decide +kernel
theorem dX4_mean_36 : decode cX4_mean 36 = .ok (.aload_n 2, 1) := by decide +kernel
theorem dX4_mean_37 : decode cX4_mean 37 = .ok (.getfield 73, 3) := by decide +kernel
theorem dX4_mean_40 : decode cX4_mean 40 = .ok (.idiv, 1) := by decide +kernel
theorem dX4_mean_41 : decode cX4_mean 41 = .ok (.goto 8, 3) := by decide +kernel
theorem dX4_mean_44 : decode cX4_mean 44 = .ok (.aload_n 0, 1) := by decide +kernel
theorem dX4_mean_45 : decode cX4_mean 45 = .ok (.iconst 4, 1) := by decide +kernel
theorem dX4_mean_46 : decode cX4_mean 46 = .ok (.invokevirtual 62, 3) := by decide +kernel
theorem dX4_mean_49 : decode cX4_mean 49 = .ok (.ireturn, 1) := by decide +kernel
theorem dX4_many_0 : decode cX4_many 0 = .ok (.iload_n 1, 1) := by decide +kernel
theorem dX4_many_1 : decode cX4_many 1 = .ok (.invokestatic 113, 3) := by decide +kernel
theorem dX4_many_4 : decode cX4_many 4 = .ok (.ifCond .eq 14, 3) := by decide +kernel
theorem dX4_many_7 : decode cX4_many 7 = .ok (.aload_n 0, 1) := by decide +kernel
theorem dX4_many_8 : decode cX4_many 8 = .ok (.getfield 26, 3) := by decide +kernel
theorem dX4_many_11 : decode cX4_many 11 = .ok (.iload_n 1, 1) := by decide +kernel
theorem dX4_many_12 : decode cX4_many 12 = .ok (.invokevirtual 116, 3) := by decide +kernel
theorem dX4_many_15 : decode cX4_many 15 = .ok (.goto 4, 3) := by decide +kernel
theorem dX4_many_18 : decode cX4_many 18 = .ok (.iconst (-1), 1) := by decide +kernel
theorem dX4_many_19 : decode cX4_many 19 = .ok (.ireturn, 1) := by decide +kernel
theorem dX4_rank_0 : decode cX4_rank 0 = .ok (.iload_n 1, 1) := by decide +kernel
theorem dX4_rank_1 : decode cX4_rank 1 = .ok (.invokestatic 51, 3) := by decide +kernel
theorem dX4_rank_4 : decode cX4_rank 4 = .ok (.ifCond .ne 5, 3) := by decide +kernel
theorem dX4_rank_7 : decode cX4_rank 7 = .ok (.iconst (-1), 1) := by decide +kernel
theorem dX4_rank_8 : decode cX4_rank 8 = .ok (.ireturn, 1) := by decide +kernel
theorem dX4_rank_9 : decode cX4_rank 9 = .ok (.aload_n 0, 1) := by decide +kernel
theorem dX4_rank_10 : decode cX4_rank 10 = .ok (.iload_n 1, 1) := by decide +kernel
theorem dX4_rank_11 : decode cX4_rank 11 = .ok (.invokevirtual 58, 3) := by decide +kernel
theorem dX4_rank_14 : decode cX4_rank 14 = .ok (.astore_n 2, 1) := by decide +kernel
theorem dX4_rank_15 : decode cX4_rank 15 = .ok (.aload_n 2, 1) := by decide +kernel
theorem dX4_rank_16 : decode cX4_rank 16 = .ok (.ifnonnull 11, 3) := by decide +kernel
theorem dX4_rank_19 : decode cX4_rank 19 = .ok (.aload_n 0, 1) := by decide +kernel
theorem dX4_rank_20 : decode cX4_rank 20 = .ok (.iconst 1, 1) := by decide +kernel
theorem dX4_rank_21 : decode cX4_rank 21 = .ok (.invokevirtual 62, 3) := by decide +kernel
theorem dX4_rank_24 : decode cX4_rank 24 = .ok (.goto 11, 3) := by decide +kernel
theorem dX4_rank_27 : decode cX4_rank 27 = .ok (.aload_n 0, 1) := by decide +kernel
theorem dX4_rank_28 : decode cX4_rank 28 = .ok (.getfield 26, 3) := by decide +kernel
theorem dX4_rank_31 : decode cX4_rank 31 = .ok (.aload_n 2, 1) := by decide +kernel
theorem dX4_rank_32 : decode cX4_rank 32 = .ok (.invokevirtual 100, 3) := by decide +kernel
theorem dX4_rank_35 : decode cX4_rank 35 = .ok (.ireturn, 1) := by decide +kernel
theorem dX4_list_0 : decode cX4_list 0 = .ok (.iload_n 1, 1) := by decide +kernel
theorem dX4_list_1 : decode cX4_list 1 = .ok (.invokestatic 51, 3) := by decide +kernel
theorem dX4_list_4 : decode cX4_list 4 = .ok (.ifCond .eq 10, 3) := by decide +kernel
theorem dX4_list_7 : decode cX4_list 7 = .ok (.iload_n 2, 1) := by decide +kernel
theorem dX4_list_8 : decode cX4_list 8 = .ok (.invokestatic 113, 3) := by decide +kernel
theorem dX4_list_11 : decode cX4_list 11 = .ok (.ifCond .ne 5, 3) := by decide +kernel
theorem dX4_list_14 : decode cX4_list 14 = .ok (.iconst (-1), 1) := by decide +kernel
theorem dX4_list_15 : decode cX4_list 15 = .ok (.ireturn, 1) := by decide +kernel
theorem dX4_list_16 : decode cX4_list 16 = .ok (.iload_n 3, 1) := by decide +kernel
theorem dX4_list_17 : decode cX4_list 17 = .ok (.ifCond .lt 15, 3) := by decide +kernel
theorem dX4_list_20 : decode cX4_list 20 = .ok (.iload_n 3, 1) := by decide +kernel
theorem dX4_list_21 : decode cX4_list 21 = .ok (.aload_n 0, 1) := by decide +kernel
theorem dX4_list_22 : decode cX4_list 22 = .ok (.getfield 26, 3) := by decide +kernel
theorem dX4_list_25 : decode cX4_list 25 = .ok (.iload_n 2, 1) := by decide +kernel
theorem dX4_list_26 : decode cX4_list 26 = .ok (.invokevirtual 116, 3) := by decide +kernel
theorem dX4_list_29 : decode cX4_list 29 = .ok (.if_icmp .lt 6, 3) := by decide +kernel
theorem dX4_list_32 : decode cX4_list 32 = .ok (.bipush (-9), 2) := by decide +kernel
theorem dX4_list_34 : decode cX4_list 34 = .ok (.ireturn, 1) := by decide +kernel
theorem dX4_list_35 : decode cX4_list 35 = .ok (.aload_n 0, 1) := by decide +kernel
theorem dX4_list_36 : decode cX4_list 36 = .ok (.getfield 15, 3) := by decide +kernel
theorem dX4_list_39 : decode cX4_list 39 = .ok (.iload_n 1, 1) := by decide +kernel
theorem dX4_list_40 : decode cX4_list 40 = .ok (.iconst 1, 1) := by decide +kernel
theorem dX4_list_41 : decode cX4_list 41 = .ok (.bastore, 1) := by decide +kernel
theorem dX4_list_42 : decode cX4_list 42 = .ok (.aload_n 0, 1) := by decide +kernel
theorem dX4_list_43 : decode cX4_list 43 = .ok (.getfield 26, 3) := by decide +kernel
theorem dX4_list_46 : decode cX4_list 46 = .ok (.aload_n 0, 1) := by decide +kernel
theorem dX4_list_47 : decode cX4_list 47 = .ok (.getfield 11, 3) := by decide +kernel
theorem dX4_list_50 : decode cX4_list 50 = .ok (.iload_n 1, 1) := by decide +kernel
theorem dX4_list_51 : decode cX4_list 51 = .ok (.aaload, 1) := by decide +kernel
theorem dX4_list_52 : decode cX4_list 52 = .ok (.iload_n 2, 1) := by decide +kernel
theorem dX4_list_53 : decode cX4_list 53 = .ok (.iload_n 3, 1) := by decide +kernel
theorem dX4_list_54 : decode cX4_list 54 = .ok (.invokevirtual 119, 3) := by decide +kernel
theorem dX4_list_57 : decode cX4_list 57 = .ok (.iconst 1, 1) := by decide +kernel
theorem dX4_list_58 : decode cX4_list 58 = .ok (.ireturn, 1) := by decide +kernel
theorem dX4_turn_0 : decode cX4_turn 0 = .ok (.iload_n 1, 1) := by decide +kernel
theorem dX4_turn_1 : decode cX4_turn 1 = .ok (.invokestatic 51, 3) := by decide +kernel
theorem dX4_turn_4 : decode cX4_turn 4 = .ok (.ifCond .ne 5, 3) := by decide +kernel
theorem dX4_turn_7 : decode cX4_turn 7 = .ok (.iconst (-1), 1) := by decide +kernel
theorem dX4_turn_8 : decode cX4_turn 8 = .ok (.ireturn, 1) := by decide +kernel
theorem dX4_turn_9 : decode cX4_turn 9 = .ok (.aload_n 0, 1) := by decide +kernel
theorem dX4_turn_10 : decode cX4_turn 10 = .ok (.iload_n 1, 1) := by decide +kernel
theorem dX4_turn_11 : decode cX4_turn 11 = .ok (.invokevirtual 58, 3) := by decide +kernel
theorem dX4_turn_14 : decode cX4_turn 14 = .ok (.astore_n 2, 1) := by decide +kernel
theorem dX4_turn_15 : decode cX4_turn 15 = .ok (.aload_n 2, 1) := by decide +kernel
theorem dX4_turn_16 : decode cX4_turn 16 = .ok (.ifnonnull 9, 3) := by decide +kernel
theorem dX4_turn_19 : decode cX4_turn 19 = .ok (.aload_n 0, 1) := by decide +kernel
theorem dX4_turn_20 : decode cX4_turn 20 = .ok (.iconst 1, 1) := by decide +kernel
theorem dX4_turn_21 : decode cX4_turn 21 = .ok (.invokevirtual 62, 3) := by decide +kernel
theorem dX4_turn_24 : decode cX4_turn 24 = .ok (.ireturn, 1) := by decide +kernel
theorem dX4_turn_25 : decode cX4_turn 25 = .ok (.aload_n 0, 1) := by decide +kernel
theorem dX4_turn_26 : decode cX4_turn 26 = .ok (.getfield 44, 3) := by decide +kernel
theorem dX4_turn_29 : decode cX4_turn 29 = .ok (.invokevirtual 55, 3) := by decide +kernel
theorem dX4_turn_32 : decode cX4_turn 32 = .ok (.iconst 1, 1) := by decide +kernel
theorem dX4_turn_33 : decode cX4_turn 33 = .ok (.istore_n 3, 1) := by decide +kernel
theorem dX4_turn_34 : decode cX4_turn 34 = .ok (.iload_n 3, 1) := by decide +kernel
theorem dX4_turn_35 : decode cX4_turn 35 = .ok (.aload_n 2, 1) := by decide +kernel
theorem dX4_turn_36 : decode cX4_turn 36 = .ok (.iconst 0, 1) := by decide +kernel
theorem dX4_turn_37 : decode cX4_turn 37 = .ok (.invokevirtual 80, 3) := by decide +kernel
theorem dX4_turn_40 : decode cX4_turn 40 = .ok (.if_icmp .gt 21, 3) := by decide +kernel
theorem dX4_turn_43 : decode cX4_turn 43 = .ok (.aload_n 0, 1) := by decide +kernel
theorem dX4_turn_44 : decode cX4_turn 44 = .ok (.getfield 44, 3) := by decide +kernel
theorem dX4_turn_47 : decode cX4_turn 47 = .ok (.aload_n 2, 1) := by decide +kernel
theorem dX4_turn_48 : decode cX4_turn 48 = .ok (.iload_n 3, 1) := by decide +kernel
theorem dX4_turn_49 : decode cX4_turn 49 = .ok (.invokevirtual 122, 3) := by decide +kernel
theorem dX4_turn_52 : decode cX4_turn 52 = .ok (.invokevirtual 69, 3) := by decide +kernel
theorem dX4_turn_55 : decode cX4_turn 55 = .ok (.iinc 3 1, 3) := by decide +kernel
theorem dX4_turn_58 : decode cX4_turn 58 = .ok (.goto (-24), 3) := by decide +kernel
theorem dX4_turn_61 : decode cX4_turn 61 = .ok (.aload_n 2, 1) := by decide +kernel
theorem dX4_turn_62 : decode cX4_turn 62 = .ok (.invokevirtual 55, 3) := by decide +kernel
theorem dX4_turn_65 : decode cX4_turn 65 = .ok (.aload_n 2, 1) := by decide +kernel
theorem dX4_turn_66 : decode cX4_turn 66 = .ok (.aload_n 0, 1) := by decide +kernel
theorem dX4_turn_67 : decode cX4_turn 67 = .ok (.getfield 44, 3) := by decide +kernel
theorem dX4_turn_70 : decode cX4_turn 70 = .ok (.iconst 0, 1) := by decide +kernel
theorem dX4_turn_71 : decode cX4_turn 71 = .ok (.aload_n 0, 1) := by decide +kernel
theorem dX4_turn_72 : decode cX4_turn 72 = .ok (.getfield 44, 3) := by decide +kernel
theorem dX4_turn_75 : decode cX4_turn 75 = .ok (.getfield 73, 3) := by decide +kernel
theorem dX4_turn_78 : decode cX4_turn 78 = .ok (.invokevirtual 86, 3) := by decide +kernel
theorem dX4_turn_81 : decode cX4_turn 81 = .ok (.aload_n 2, 1) := by decide +kernel
theorem dX4_turn_82 : decode cX4_turn 82 = .ok (.getfield 73, 3) := by decide +kernel
theorem dX4_turn_85 : decode cX4_turn 85 = .ok (.ireturn, 1) := by decide +kernel
theorem dX4_step_0 : decode cX4_step 0 = .ok (.iload_n 1, 1) := by decide +kernel
theorem dX4_step_1 : decode cX4_step 1 = .ok (.invokestatic 51, 3) := by decide +kernel
theorem dX4_step_4 : decode cX4_step 4 = .ok (.ifCond .eq 14, 3) := by decide +kernel
theorem dX4_step_7 : decode cX4_step 7 = .ok (.iload_n 2, 1) := by decide +kernel
theorem dX4_step_8 : decode cX4_step 8 = .ok (.ifCond .lt 10, 3) := by decide +kernel
theorem dX4_step_11 : decode cX4_step 11 = .ok (.iload_n 2, 1) := by decide +kernel
theorem dX4_step_12 : decode cX4_step 12 = .ok (.sipush 1000, 3) := by decide +kernel
theorem dX4_step_15 : decode cX4_step 15 = .ok (.if_icmp .le 5, 3) := by decide +kernel
theorem dX4_step_18 : decode cX4_step 18 = .ok (.iconst (-1), 1) := by decide +kernel
theorem dX4_step_19 : decode cX4_step 19 = .ok (.ireturn, 1) := by decide +kernel
theorem dX4_step_20 : decode cX4_step 20 = .ok (.aload_n 0, 1) := by decide +kernel
theorem dX4_step_21 : decode cX4_step 21 = .ok (.iload_n 1, 1) := by decide +kernel
theorem dX4_step_22 : decode cX4_step 22 = .ok (.invokevirtual 58, 3) := by decide +kernel
theorem dX4_step_25 : decode cX4_step 25 = .ok (.astore_n 3, 1) := by decide +kernel
theorem dX4_step_26 : decode cX4_step 26 = .ok (.aload_n 3, 1) := by decide +kernel
theorem dX4_step_27 : decode cX4_step 27 = .ok (.ifnonnull 9, 3) := by decide +kernel
theorem dX4_step_30 : decode cX4_step 30 = .ok (.aload_n 0, 1) := by decide +kernel
theorem dX4_step_31 : decode cX4_step 31 = .ok (.iconst 1, 1) := by decide +kernel
theorem dX4_step_32 : decode cX4_step 32 = .ok (.invokevirtual 62, 3) := by decide +kernel
theorem dX4_step_35 : decode cX4_step 35 = .ok (.ireturn, 1) := by decide +kernel
theorem dX4_step_36 : decode cX4_step 36 = .ok (.aload_n 3, 1) := by decide +kernel
theorem dX4_step_37 : decode cX4_step 37 = .ok (.getfield 90, 3) := by decide +kernel
theorem dX4_step_40 : decode cX4_step 40 = .ok (.istore 4, 2) := by decide +kernel
theorem dX4_step_42 : decode cX4_step 42 = .ok (.aload_n 0, 1) := by decide +kernel
theorem dX4_step_43 : decode cX4_step 43 = .ok (.iload 4, 2) := by decide +kernel
theorem dX4_step_45 : decode cX4_step 45 = .ok (.invokevirtual 96, 3) := by decide +kernel
theorem dX4_step_48 : decode cX4_step 48 = .ok (.aload_n 0, 1) := by decide +kernel
theorem dX4_step_49 : decode cX4_step 49 = .ok (.getfield 26, 3) := by decide +kernel
theorem dX4_step_52 : decode cX4_step 52 = .ok (.aload_n 3, 1) := by decide +kernel
theorem dX4_step_53 : decode cX4_step 53 = .ok (.invokevirtual 100, 3) := by decide +kernel
theorem dX4_step_56 : decode cX4_step 56 = .ok (.iload_n 2, 1) := by decide +kernel
theorem dX4_step_57 : decode cX4_step 57 = .ok (.invokevirtual 125, 3) := by decide +kernel
theorem dX4_step_60 : decode cX4_step 60 = .ok (.istore 5, 2) := by decide +kernel
theorem dX4_step_62 : decode cX4_step 62 = .ok (.aload_n 0, 1) := by decide +kernel
theorem dX4_step_63 : decode cX4_step 63 = .ok (.getfield 26, 3) := by decide +kernel
theorem dX4_step_66 : decode cX4_step 66 = .ok (.aload_n 3, 1) := by decide +kernel
theorem dX4_step_67 : decode cX4_step 67 = .ok (.iload 4, 2) := by decide +kernel
theorem dX4_step_69 : decode cX4_step 69 = .ok (.iload 5, 2) := by decide +kernel
theorem dX4_step_71 : decode cX4_step 71 = .ok (.invokevirtual 119, 3) := by decide +kernel
theorem dX4_step_74 : decode cX4_step 74 = .ok (.aload_n 3, 1) := by decide +kernel
theorem dX4_step_75 : decode cX4_step 75 = .ok (.getfield 73, 3) := by decide +kernel
theorem dX4_step_78 : decode cX4_step 78 = .ok (.ireturn, 1) := by decide +kernel
theorem dX4_tail_0 : decode cX4_tail 0 = .ok (.iload_n 1, 1) := by decide +kernel
theorem dX4_tail_1 : decode cX4_tail 1 = .ok (.invokestatic 51, 3) := by decide +kernel
theorem dX4_tail_4 : decode cX4_tail 4 = .ok (.ifCond .ne 5, 3) := by decide +kernel
theorem dX4_tail_7 : decode cX4_tail 7 = .ok (.iconst (-1), 1) := by decide +kernel
theorem dX4_tail_8 : decode cX4_tail 8 = .ok (.ireturn, 1) := by decide +kernel
theorem dX4_tail_9 : decode cX4_tail 9 = .ok (.aload_n 0, 1) := by decide +kernel
theorem dX4_tail_10 : decode cX4_tail 10 = .ok (.iload_n 1, 1) := by decide +kernel
theorem dX4_tail_11 : decode cX4_tail 11 = .ok (.invokevirtual 58, 3) := by decide +kernel
theorem dX4_tail_14 : decode cX4_tail 14 = .ok (.astore_n 2, 1) := by decide +kernel
theorem dX4_tail_15 : decode cX4_tail 15 = .ok (.aload_n 2, 1) := by decide +kernel
theorem dX4_tail_16 : decode cX4_tail 16 = .ok (.ifnonnull 11, 3) := by decide +kernel
theorem dX4_tail_19 : decode cX4_tail 19 = .ok (.aload_n 0, 1) := by decide +kernel
theorem dX4_tail_20 : decode cX4_tail 20 = .ok (.iconst 1, 1) := by decide +kernel
theorem dX4_tail_21 : decode cX4_tail 21 = .ok (.invokevirtual 62, 3) := by decide +kernel
theorem dX4_tail_24 : decode cX4_tail 24 = .ok (.goto 22, 3) := by decide +kernel
theorem dX4_tail_27 : decode cX4_tail 27 = .ok (.aload_n 0, 1) := by decide +kernel
theorem dX4_tail_28 : decode cX4_tail 28 = .ok (.aload_n 2, 1) := by decide +kernel
theorem dX4_tail_29 : decode cX4_tail 29 = .ok (.getfield 90, 3) := by decide +kernel
theorem dX4_tail_32 : decode cX4_tail 32 = .ok (.invokevirtual 96, 3) := by decide +kernel
theorem dX4_tail_35 : decode cX4_tail 35 = .ok (.aload_n 0, 1) := by decide +kernel
theorem dX4_tail_36 : decode cX4_tail 36 = .ok (.getfield 26, 3) := by decide +kernel
theorem dX4_tail_39 : decode cX4_tail 39 = .ok (.aload_n 2, 1) := by decide +kernel
theorem dX4_tail_40 : decode cX4_tail 40 = .ok (.invokevirtual 100, 3) := by decide +kernel
theorem dX4_tail_43 : decode cX4_tail 43 = .ok (.invokevirtual 110, 3) := by decide +kernel
theorem dX4_tail_46 : decode cX4_tail 46 = .ok (.ireturn, 1) := by decide +kernel
theorem dX4_beat_0 : decode cX4_beat 0 = .ok (.iload_n 1, 1) := by decide +kernel
theorem dX4_beat_1 : decode cX4_beat 1 = .ok (.invokestatic 51, 3) := by decide +kernel
theorem dX4_beat_4 : decode cX4_beat 4 = .ok (.ifCond .ne 5, 3) := by decide +kernel
theorem dX4_beat_7 : decode cX4_beat 7 = .ok (.iconst (-1), 1) := by decide +kernel
theorem dX4_beat_8 : decode cX4_beat 8 = .ok (.ireturn, 1) := by decide +kernel
theorem dX4_beat_9 : decode cX4_beat 9 = .ok (.aload_n 0, 1) := by decide +kernel
theorem dX4_beat_10 : decode cX4_beat 10 = .ok (.iload_n 1, 1) := by decide +kernel
theorem dX4_beat_11 : decode cX4_beat 11 = .ok (.invokevirtual 58, 3) := by decide +kernel
theorem dX4_beat_14 : decode cX4_beat 14 = .ok (.astore_n 2, 1) := by decide +kernel
theorem dX4_beat_15 : decode cX4_beat 15 = .ok (.aload_n 2, 1) := by decide +kernel
theorem dX4_beat_16 : decode cX4_beat 16 = .ok (.ifnonnull 11, 3) := by decide +kernel
theorem dX4_beat_19 : decode cX4_beat 19 = .ok (.aload_n 0, 1) := by decide +kernel
theorem dX4_beat_20 : decode cX4_beat 20 = .ok (.iconst 1, 1) := by decide +kernel
theorem dX4_beat_21 : decode cX4_beat 21 = .ok (.invokevirtual 62, 3) := by decide +kernel
theorem dX4_beat_24 : decode cX4_beat 24 = .ok (.goto 22, 3) := by decide +kernel
theorem dX4_beat_27 : decode cX4_beat 27 = .ok (.aload_n 0, 1) := by decide +kernel
theorem dX4_beat_28 : decode cX4_beat 28 = .ok (.aload_n 2, 1) := by decide +kernel
theorem dX4_beat_29 : decode cX4_beat 29 = .ok (.getfield 90, 3) := by decide +kernel
theorem dX4_beat_32 : decode cX4_beat 32 = .ok (.invokevirtual 96, 3) := by decide +kernel
theorem dX4_beat_35 : decode cX4_beat 35 = .ok (.aload_n 0, 1) := by decide +kernel
theorem dX4_beat_36 : decode cX4_beat 36 = .ok (.getfield 26, 3) := by decide +kernel
theorem dX4_beat_39 : decode cX4_beat 39 = .ok (.aload_n 2, 1) := by decide +kernel
theorem dX4_beat_40 : decode cX4_beat 40 = .ok (.invokevirtual 100, 3) := by decide +kernel
theorem dX4_beat_43 : decode cX4_beat 43 = .ok (.invokevirtual 107, 3) := by decide +kernel
theorem dX4_beat_46 : decode cX4_beat 46 = .ok (.ireturn, 1) := by decide +kernel
theorem dX4_leader_0 : decode cX4_leader 0 = .ok (.iload_n 1, 1) := by decide +kernel
theorem dX4_leader_1 : decode cX4_leader 1 = .ok (.invokestatic 51, 3) := by decide +kernel
theorem dX4_leader_4 : decode cX4_leader 4 = .ok (.ifCond .ne 5, 3) := by decide +kernel
theorem dX4_leader_7 : decode cX4_leader 7 = .ok (.iconst (-1), 1) := by decide +kernel
theorem dX4_leader_8 : decode cX4_leader 8 = .ok (.ireturn, 1) := by decide +kernel
theorem dX4_leader_9 : decode cX4_leader 9 = .ok (.aload_n 0, 1) := by decide +kernel
theorem dX4_leader_10 : decode cX4_leader 10 = .ok (.iload_n 1, 1) := by decide +kernel
theorem dX4_leader_11 : decode cX4_leader 11 = .ok (.invokevirtual 58, 3) := by decide +kernel
theorem dX4_leader_14 : decode cX4_leader 14 = .ok (.astore_n 2, 1) := by decide +kernel
theorem dX4_leader_15 : decode cX4_leader 15 = .ok (.aload_n 2, 1) := by decide +kernel
theorem dX4_leader_16 : decode cX4_leader 16 = .ok (.ifnonnull 11, 3) := by decide +kernel
theorem dX4_leader_19 : decode cX4_leader 19 = .ok (.aload_n 0, 1) := by decide +kernel
theorem dX4_leader_20 : decode cX4_leader 20 = .ok (.iconst 1, 1) := by decide +kernel
theorem dX4_leader_21 : decode cX4_leader 21 = .ok (.invokevirtual 62, 3) := by decide +kernel
theorem dX4_leader_24 : decode cX4_leader 24 = .ok (.goto 22, 3) := by decide +kernel
theorem dX4_leader_27 : decode cX4_leader 27 = .ok (.aload_n 0, 1) := by decide +kernel
theorem dX4_leader_28 : decode cX4_leader 28 = .ok (.aload_n 2, 1) := by decide +kernel
theorem dX4_leader_29 : decode cX4_leader 29 = .ok (.getfield 90, 3) := by decide +kernel
theorem dX4_leader_32 : decode cX4_leader 32 = .ok (.invokevirtual 96, 3) := by decide +kernel
theorem dX4_leader_35 : decode cX4_leader 35 = .ok (.aload_n 0, 1) := by decide +kernel
theorem dX4_leader_36 : decode cX4_leader 36 = .ok (.getfield 26, 3) := by decide +kernel
theorem dX4_leader_39 : decode cX4_leader 39 = .ok (.aload_n 2, 1) := by decide +kernel
theorem dX4_leader_40 : decode cX4_leader 40 = .ok (.invokevirtual 100, 3) := by decide +kernel
theorem dX4_leader_43 : decode cX4_leader 43 = .ok (.invokevirtual 129, 3) := by decide +kernel
theorem dX4_leader_46 : decode cX4_leader 46 = .ok (.ireturn, 1) := by decide +kernel
theorem dX4_rounds_0 : decode cX4_rounds 0 = .ok (.iload_n 1, 1) := by decide +kernel
theorem dX4_rounds_1 : decode cX4_rounds 1 = .ok (.invokestatic 113, 3) := by decide +kernel
theorem dX4_rounds_4 : decode cX4_rounds 4 = .ok (.ifCond .ne 5, 3) := by decide +kernel
theorem dX4_rounds_7 : decode cX4_rounds 7 = .ok (.iconst (-1), 1) := by decide +kernel
theorem dX4_rounds_8 : decode cX4_rounds 8 = .ok (.ireturn, 1) := by decide +kernel
theorem dX4_rounds_9 : decode cX4_rounds 9 = .ok (.iload_n 2, 1) := by decide +kernel
theorem dX4_rounds_10 : decode cX4_rounds 10 = .ok (.tableswitch 79 0 4 #[34, 43, 52, 61, 70], 34) := by decide +kernel
theorem dX4_rounds_44 : decode cX4_rounds 44 = .ok (.aload_n 0, 1) := by decide +kernel
theorem dX4_rounds_45 : decode cX4_rounds 45 = .ok (.iload_n 1, 1) := by decide +kernel
theorem dX4_rounds_46 : decode cX4_rounds 46 = .ok (.invokevirtual 96, 3) := by decide +kernel
theorem dX4_rounds_49 : decode cX4_rounds 49 = .ok (.getfield 132, 3) := by decide +kernel
theorem dX4_rounds_52 : decode cX4_rounds 52 = .ok (.ireturn, 1) := by decide +kernel
theorem dX4_rounds_53 : decode cX4_rounds 53 = .ok (.aload_n 0, 1) := by decide +kernel
theorem dX4_rounds_54 : decode cX4_rounds 54 = .ok (.iload_n 1, 1) := by decide +kernel
theorem dX4_rounds_55 : decode cX4_rounds 55 = .ok (.invokevirtual 96, 3) := by decide +kernel
theorem dX4_rounds_58 : decode cX4_rounds 58 = .ok (.getfield 135, 3) := by decide +kernel
theorem dX4_rounds_61 : decode cX4_rounds 61 = .ok (.ireturn, 1) := by decide +kernel
theorem dX4_rounds_62 : decode cX4_rounds 62 = .ok (.aload_n 0, 1) := by decide +kernel
theorem dX4_rounds_63 : decode cX4_rounds 63 = .ok (.iload_n 1, 1) := by decide +kernel
theorem dX4_rounds_64 : decode cX4_rounds 64 = .ok (.invokevirtual 96, 3) := by decide +kernel
theorem dX4_rounds_67 : decode cX4_rounds 67 = .ok (.getfield 138, 3) := by decide +kernel
theorem dX4_rounds_70 : decode cX4_rounds 70 = .ok (.ireturn, 1) := by decide +kernel
theorem dX4_rounds_71 : decode cX4_rounds 71 = .ok (.aload_n 0, 1) := by decide +kernel
theorem dX4_rounds_72 : decode cX4_rounds 72 = .ok (.iload_n 1, 1) := by decide +kernel
theorem dX4_rounds_73 : decode cX4_rounds 73 = .ok (.invokevirtual 96, 3) := by decide +kernel
theorem dX4_rounds_76 : decode cX4_rounds 76 = .ok (.getfield 141, 3) := by decide +kernel
theorem dX4_rounds_79 : decode cX4_rounds 79 = .ok (.ireturn, 1) := by decide +kernel
theorem dX4_rounds_80 : decode cX4_rounds 80 = .ok (.aload_n 0, 1) := by decide +kernel
theorem dX4_rounds_81 : decode cX4_rounds 81 = .ok (.iload_n 1, 1) := by decide +kernel
theorem dX4_rounds_82 : decode cX4_rounds 82 = .ok (.invokevirtual 96, 3) := by decide +kernel
theorem dX4_rounds_85 : decode cX4_rounds 85 = .ok (.getfield 144, 3) := by decide +kernel
theorem dX4_rounds_88 : decode cX4_rounds 88 = .ok (.ireturn, 1) := by decide +kernel
theorem dX4_rounds_89 : decode cX4_rounds 89 = .ok (.iconst (-1), 1) := by decide +kernel
theorem dX4_rounds_90 : decode cX4_rounds 90 = .ok (.ireturn, 1) := by decide +kernel
theorem dX4_ring_0 : decode cX4_ring 0 = .ok (.iload_n 1, 1) := by decide +kernel
theorem dX4_ring_1 : decode cX4_ring 1 = .ok (.invokestatic 113, 3) := by decide +kernel
theorem dX4_ring_4 : decode cX4_ring 4 = .ok (.ifCond .eq 15, 3) := by decide +kernel
theorem dX4_ring_7 : decode cX4_ring 7 = .ok (.aload_n 0, 1) := by decide +kernel
theorem dX4_ring_8 : decode cX4_ring 8 = .ok (.iload_n 1, 1) := by decide +kernel
theorem dX4_ring_9 : decode cX4_ring 9 = .ok (.invokevirtual 96, 3) := by decide +kernel
theorem dX4_ring_12 : decode cX4_ring 12 = .ok (.iload_n 2, 1) := by decide +kernel
theorem dX4_ring_13 : decode cX4_ring 13 = .ok (.invokevirtual 147, 3) := by decide +kernel
theorem dX4_ring_16 : decode cX4_ring 16 = .ok (.goto 4, 3) := by decide +kernel
theorem dX4_ring_19 : decode cX4_ring 19 = .ok (.iconst (-1), 1) := by decide +kernel
theorem dX4_ring_20 : decode cX4_ring 20 = .ok (.ireturn, 1) := by decide +kernel
theorem dX4_from_0 : decode cX4_from 0 = .ok (.iload_n 1, 1) := by decide +kernel
theorem dX4_from_1 : decode cX4_from 1 = .ok (.invokestatic 51, 3) := by decide +kernel
theorem dX4_from_4 : decode cX4_from 4 = .ok (.ifCond .ne 5, 3) := by decide +kernel
theorem dX4_from_7 : decode cX4_from 7 = .ok (.iconst (-1), 1) := by decide +kernel
theorem dX4_from_8 : decode cX4_from 8 = .ok (.ireturn, 1) := by decide +kernel
theorem dX4_from_9 : decode cX4_from 9 = .ok (.aload_n 0, 1) := by decide +kernel
theorem dX4_from_10 : decode cX4_from 10 = .ok (.iload_n 1, 1) := by decide +kernel
theorem dX4_from_11 : decode cX4_from 11 = .ok (.invokevirtual 58, 3) := by decide +kernel
theorem dX4_from_14 : decode cX4_from 14 = .ok (.astore_n 2, 1) := by decide +kernel
theorem dX4_from_15 : decode cX4_from 15 = .ok (.aload_n 2, 1) := by decide +kernel
theorem dX4_from_16 : decode cX4_from 16 = .ok (.ifnonnull 11, 3) := by decide +kernel
theorem dX4_from_19 : decode cX4_from 19 = .ok (.aload_n 0, 1) := by decide +kernel
theorem dX4_from_20 : decode cX4_from 20 = .ok (.iconst 1, 1) := by decide +kernel
theorem dX4_from_21 : decode cX4_from 21 = .ok (.invokevirtual 62, 3) := by decide +kernel
theorem dX4_from_24 : decode cX4_from 24 = .ok (.goto 22, 3) := by decide +kernel
theorem dX4_from_27 : decode cX4_from 27 = .ok (.aload_n 0, 1) := by decide +kernel
theorem dX4_from_28 : decode cX4_from 28 = .ok (.aload_n 2, 1) := by decide +kernel
theorem dX4_from_29 : decode cX4_from 29 = .ok (.getfield 90, 3) := by decide +kernel
theorem dX4_from_32 : decode cX4_from 32 = .ok (.invokevirtual 96, 3) := by decide +kernel
theorem dX4_from_35 : decode cX4_from 35 = .ok (.aload_n 0, 1) := by decide +kernel
theorem dX4_from_36 : decode cX4_from 36 = .ok (.getfield 26, 3) := by decide +kernel
theorem dX4_from_39 : decode cX4_from 39 = .ok (.aload_n 2, 1) := by decide +kernel
theorem dX4_from_40 : decode cX4_from 40 = .ok (.invokevirtual 100, 3) := by decide +kernel
theorem dX4_from_43 : decode cX4_from 43 = .ok (.invokevirtual 150, 3) := by decide +kernel
theorem dX4_from_46 : decode cX4_from 46 = .ok (.ireturn, 1) := by decide +kernel
theorem dX4_fromAt_0 : decode cX4_fromAt 0 = .ok (.iload_n 1, 1) := by decide +kernel
theorem dX4_fromAt_1 : decode cX4_fromAt 1 = .ok (.invokestatic 51, 3) := by decide +kernel
theorem dX4_fromAt_4 : decode cX4_fromAt 4 = .ok (.ifCond .ne 5, 3) := by decide +kernel
theorem dX4_fromAt_7 : decode cX4_fromAt 7 = .ok (.iconst (-1), 1) := by decide +kernel
theorem dX4_fromAt_8 : decode cX4_fromAt 8 = .ok (.ireturn, 1) := by decide +kernel
theorem dX4_fromAt_9 : decode cX4_fromAt 9 = .ok (.aload_n 0, 1) := by decide +kernel
theorem dX4_fromAt_10 : decode cX4_fromAt 10 = .ok (.iload_n 1, 1) := by decide +kernel
theorem dX4_fromAt_11 : decode cX4_fromAt 11 = .ok (.invokevirtual 58, 3) := by decide +kernel
theorem dX4_fromAt_14 : decode cX4_fromAt 14 = .ok (.astore_n 3, 1) := by decide +kernel
theorem dX4_fromAt_15 : decode cX4_fromAt 15 = .ok (.aload_n 3, 1) := by decide +kernel
theorem dX4_fromAt_16 : decode cX4_fromAt 16 = .ok (.ifnonnull 11, 3) := by decide +kernel
theorem dX4_fromAt_19 : decode cX4_fromAt 19 = .ok (.aload_n 0, 1) := by decide +kernel
theorem dX4_fromAt_20 : decode cX4_fromAt 20 = .ok (.iconst 1, 1) := by decide +kernel
theorem dX4_fromAt_21 : decode cX4_fromAt 21 = .ok (.invokevirtual 62, 3) := by decide +kernel
theorem dX4_fromAt_24 : decode cX4_fromAt 24 = .ok (.goto 23, 3) := by decide +kernel
theorem dX4_fromAt_27 : decode cX4_fromAt 27 = .ok (.aload_n 0, 1) := by decide +kernel
theorem dX4_fromAt_28 : decode cX4_fromAt 28 = .ok (.aload_n 3, 1) := by decide +kernel
theorem dX4_fromAt_29 : decode cX4_fromAt 29 = .ok (.getfield 90, 3) := by decide +kernel
theorem dX4_fromAt_32 : decode cX4_fromAt 32 = .ok (.invokevirtual 96, 3) := by decide +kernel
theorem dX4_fromAt_35 : decode cX4_fromAt 35 = .ok (.aload_n 0, 1) := by decide +kernel
theorem dX4_fromAt_36 : decode cX4_fromAt 36 = .ok (.getfield 26, 3) := by decide +kernel
theorem dX4_fromAt_39 : decode cX4_fromAt 39 = .ok (.aload_n 3, 1) := by decide +kernel
theorem dX4_fromAt_40 : decode cX4_fromAt 40 = .ok (.invokevirtual 100, 3) := by decide +kernel
theorem dX4_fromAt_43 : decode cX4_fromAt 43 = .ok (.iload_n 2, 1) := by decide +kernel
theorem dX4_fromAt_44 : decode cX4_fromAt 44 = .ok (.invokevirtual 153, 3) := by decide +kernel
theorem dX4_fromAt_47 : decode cX4_fromAt 47 = .ok (.ireturn, 1) := by decide +kernel
theorem dX4_steps_0 : decode cX4_steps 0 = .ok (.iload_n 1, 1) := by decide +kernel
theorem dX4_steps_1 : decode cX4_steps 1 = .ok (.invokestatic 51, 3) := by decide +kernel
theorem dX4_steps_4 : decode cX4_steps 4 = .ok (.ifCond .eq 10, 3) := by decide +kernel
theorem dX4_steps_7 : decode cX4_steps 7 = .ok (.iload_n 2, 1) := by decide +kernel
theorem dX4_steps_8 : decode cX4_steps 8 = .ok (.invokestatic 51, 3) := by decide +kernel
theorem dX4_steps_11 : decode cX4_steps 11 = .ok (.ifCond .ne 5, 3) := by decide +kernel
theorem dX4_steps_14 : decode cX4_steps 14 = .ok (.iconst (-1), 1) := by decide +kernel
theorem dX4_steps_15 : decode cX4_steps 15 = .ok (.ireturn, 1) := by decide +kernel
theorem dX4_steps_16 : decode cX4_steps 16 = .ok (.aload_n 0, 1) := by decide +kernel
theorem dX4_steps_17 : decode cX4_steps 17 = .ok (.iload_n 1, 1) := by decide +kernel
theorem dX4_steps_18 : decode cX4_steps 18 = .ok (.invokevirtual 58, 3) := by decide +kernel
theorem dX4_steps_21 : decode cX4_steps 21 = .ok (.astore_n 3, 1) := by decide +kernel
theorem dX4_steps_22 : decode cX4_steps 22 = .ok (.aload_n 0, 1) := by decide +kernel
theorem dX4_steps_23 : decode cX4_steps 23 = .ok (.iload_n 2, 1) := by decide +kernel
theorem dX4_steps_24 : decode cX4_steps 24 = .ok (.invokevirtual 58, 3) := by decide +kernel
theorem dX4_steps_27 : decode cX4_steps 27 = .ok (.astore 4, 2) := by decide +kernel
theorem dX4_steps_29 : decode cX4_steps 29 = .ok (.aload_n 3, 1) := by decide +kernel
theorem dX4_steps_30 : decode cX4_steps 30 = .ok (.ifnull 8, 3) := by decide +kernel
theorem dX4_steps_33 : decode cX4_steps 33 = .ok (.aload 4, 2) := by decide +kernel
theorem dX4_steps_35 : decode cX4_steps 35 = .ok (.ifnonnull 9, 3) := by decide +kernel
theorem dX4_steps_38 : decode cX4_steps 38 = .ok (.aload_n 0, 1) := by decide +kernel
theorem dX4_steps_39 : decode cX4_steps 39 = .ok (.iconst 1, 1) := by decide +kernel
theorem dX4_steps_40 : decode cX4_steps 40 = .ok (.invokevirtual 62, 3) := by decide +kernel
theorem dX4_steps_43 : decode cX4_steps 43 = .ok (.ireturn, 1) := by decide +kernel
theorem dX4_steps_44 : decode cX4_steps 44 = .ok (.aload_n 3, 1) := by decide +kernel
theorem dX4_steps_45 : decode cX4_steps 45 = .ok (.getfield 90, 3) := by decide +kernel
theorem dX4_steps_48 : decode cX4_steps 48 = .ok (.aload 4, 2) := by decide +kernel
theorem dX4_steps_50 : decode cX4_steps 50 = .ok (.getfield 90, 3) := by decide +kernel
theorem dX4_steps_53 : decode cX4_steps 53 = .ok (.if_icmp .eq 6, 3) := by decide +kernel
theorem dX4_steps_56 : decode cX4_steps 56 = .ok (.bipush (-9), 2) := by decide +kernel
theorem dX4_steps_58 : decode cX4_steps 58 = .ok (.ireturn, 1) := by decide +kernel
theorem dX4_steps_59 : decode cX4_steps 59 = .ok (.aload_n 0, 1) := by decide +kernel
theorem dX4_steps_60 : decode cX4_steps 60 = .ok (.aload_n 3, 1) := by decide +kernel
theorem dX4_steps_61 : decode cX4_steps 61 = .ok (.getfield 90, 3) := by decide +kernel
theorem dX4_steps_64 : decode cX4_steps 64 = .ok (.invokevirtual 96, 3) := by decide +kernel
theorem dX4_steps_67 : decode cX4_steps 67 = .ok (.aload_n 0, 1) := by decide +kernel
theorem dX4_steps_68 : decode cX4_steps 68 = .ok (.getfield 26, 3) := by decide +kernel
theorem dX4_steps_71 : decode cX4_steps 71 = .ok (.aload_n 3, 1) := by decide +kernel
theorem dX4_steps_72 : decode cX4_steps 72 = .ok (.invokevirtual 100, 3) := by decide +kernel
theorem dX4_steps_75 : decode cX4_steps 75 = .ok (.aload_n 0, 1) := by decide +kernel
theorem dX4_steps_76 : decode cX4_steps 76 = .ok (.getfield 26, 3) := by decide +kernel
theorem dX4_steps_79 : decode cX4_steps 79 = .ok (.aload 4, 2) := by decide +kernel
theorem dX4_steps_81 : decode cX4_steps 81 = .ok (.invokevirtual 100, 3) := by decide +kernel
theorem dX4_steps_84 : decode cX4_steps 84 = .ok (.invokevirtual 156, 3) := by decide +kernel
theorem dX4_steps_87 : decode cX4_steps 87 = .ok (.ireturn, 1) := by decide +kernel
theorem dX4_ways_0 : decode cX4_ways 0 = .ok (.iload_n 1, 1) := by decide +kernel
theorem dX4_ways_1 : decode cX4_ways 1 = .ok (.invokestatic 51, 3) := by decide +kernel
theorem dX4_ways_4 : decode cX4_ways 4 = .ok (.ifCond .eq 10, 3) := by decide +kernel
theorem dX4_ways_7 : decode cX4_ways 7 = .ok (.iload_n 2, 1) := by decide +kernel
theorem dX4_ways_8 : decode cX4_ways 8 = .ok (.invokestatic 51, 3) := by decide +kernel
theorem dX4_ways_11 : decode cX4_ways 11 = .ok (.ifCond .ne 5, 3) := by decide +kernel
theorem dX4_ways_14 : decode cX4_ways 14 = .ok (.iconst (-1), 1) := by decide +kernel
theorem dX4_ways_15 : decode cX4_ways 15 = .ok (.ireturn, 1) := by decide +kernel
theorem dX4_ways_16 : decode cX4_ways 16 = .ok (.aload_n 0, 1) := by decide +kernel
theorem dX4_ways_17 : decode cX4_ways 17 = .ok (.iload_n 1, 1) := by decide +kernel
theorem dX4_ways_18 : decode cX4_ways 18 = .ok (.invokevirtual 58, 3) := by decide +kernel
theorem dX4_ways_21 : decode cX4_ways 21 = .ok (.astore_n 3, 1) := by decide +kernel
theorem dX4_ways_22 : decode cX4_ways 22 = .ok (.aload_n 0, 1) := by decide +kernel
theorem dX4_ways_23 : decode cX4_ways 23 = .ok (.iload_n 2, 1) := by decide +kernel
theorem dX4_ways_24 : decode cX4_ways 24 = .ok (.invokevirtual 58, 3) := by decide +kernel
theorem dX4_ways_27 : decode cX4_ways 27 = .ok (.astore 4, 2) := by decide +kernel
theorem dX4_ways_29 : decode cX4_ways 29 = .ok (.aload_n 3, 1) := by decide +kernel
theorem dX4_ways_30 : decode cX4_ways 30 = .ok (.ifnull 8, 3) := by decide +kernel
theorem dX4_ways_33 : decode cX4_ways 33 = .ok (.aload 4, 2) := by decide +kernel
theorem dX4_ways_35 : decode cX4_ways 35 = .ok (.ifnonnull 9, 3) := by decide +kernel
theorem dX4_ways_38 : decode cX4_ways 38 = .ok (.aload_n 0, 1) := by decide +kernel
theorem dX4_ways_39 : decode cX4_ways 39 = .ok (.iconst 1, 1) := by decide +kernel
theorem dX4_ways_40 : decode cX4_ways 40 = .ok (.invokevirtual 62, 3) := by decide +kernel
theorem dX4_ways_43 : decode cX4_ways 43 = .ok (.ireturn, 1) := by decide +kernel
theorem dX4_ways_44 : decode cX4_ways 44 = .ok (.aload_n 0, 1) := by decide +kernel
theorem dX4_ways_45 : decode cX4_ways 45 = .ok (.getfield 33, 3) := by decide +kernel
theorem dX4_ways_48 : decode cX4_ways 48 = .ok (.aload_n 3, 1) := by decide +kernel
theorem dX4_ways_49 : decode cX4_ways 49 = .ok (.aload 4, 2) := by decide +kernel
theorem dX4_ways_51 : decode cX4_ways 51 = .ok (.invokevirtual 159, 3) := by decide +kernel
theorem dX4_ways_54 : decode cX4_ways 54 = .ok (.ireturn, 1) := by decide +kernel
theorem dX4_reach_0 : decode cX4_reach 0 = .ok (.iload_n 1, 1) := by decide +kernel
theorem dX4_reach_1 : decode cX4_reach 1 = .ok (.invokestatic 51, 3) := by decide +kernel
theorem dX4_reach_4 : decode cX4_reach 4 = .ok (.ifCond .ne 5, 3) := by decide +kernel
theorem dX4_reach_7 : decode cX4_reach 7 = .ok (.iconst (-1), 1) := by decide +kernel
theorem dX4_reach_8 : decode cX4_reach 8 = .ok (.ireturn, 1) := by decide +kernel
theorem dX4_reach_9 : decode cX4_reach 9 = .ok (.aload_n 0, 1) := by decide +kernel
theorem dX4_reach_10 : decode cX4_reach 10 = .ok (.iload_n 1, 1) := by decide +kernel
theorem dX4_reach_11 : decode cX4_reach 11 = .ok (.invokevirtual 58, 3) := by decide +kernel
theorem dX4_reach_14 : decode cX4_reach 14 = .ok (.astore_n 2, 1) := by decide +kernel
theorem dX4_reach_15 : decode cX4_reach 15 = .ok (.aload_n 2, 1) := by decide +kernel
theorem dX4_reach_16 : decode cX4_reach 16 = .ok (.ifnonnull 11, 3) := by decide +kernel
theorem dX4_reach_19 : decode cX4_reach 19 = .ok (.aload_n 0, 1) := by decide +kernel
theorem dX4_reach_20 : decode cX4_reach 20 = .ok (.iconst 1, 1) := by decide +kernel
theorem dX4_reach_21 : decode cX4_reach 21 = .ok (.invokevirtual 62, 3) := by decide +kernel
theorem dX4_reach_24 : decode cX4_reach 24 = .ok (.goto 15, 3) := by decide +kernel
theorem dX4_reach_27 : decode cX4_reach 27 = .ok (.aload_n 0, 1) := by decide +kernel
theorem dX4_reach_28 : decode cX4_reach 28 = .ok (.getfield 33, 3) := by decide +kernel
theorem dX4_reach_31 : decode cX4_reach 31 = .ok (.aload_n 0, 1) := by decide +kernel
theorem dX4_reach_32 : decode cX4_reach 32 = .ok (.getfield 26, 3) := by decide +kernel
theorem dX4_reach_35 : decode cX4_reach 35 = .ok (.aload_n 2, 1) := by decide +kernel
theorem dX4_reach_36 : decode cX4_reach 36 = .ok (.invokevirtual 163, 3) := by decide +kernel
theorem dX4_reach_39 : decode cX4_reach 39 = .ok (.ireturn, 1) := by decide +kernel
theorem dX4_walks_0 : decode cX4_walks 0 = .ok (.iload_n 1, 1) := by decide +kernel
theorem dX4_walks_1 : decode cX4_walks 1 = .ok (.invokestatic 51, 3) := by decide +kernel
theorem dX4_walks_4 : decode cX4_walks 4 = .ok (.ifCond .eq 19, 3) := by decide +kernel
theorem dX4_walks_7 : decode cX4_walks 7 = .ok (.iload_n 2, 1) := by decide +kernel
theorem dX4_walks_8 : decode cX4_walks 8 = .ok (.invokestatic 51, 3) := by decide +kernel
theorem dX4_walks_11 : decode cX4_walks 11 = .ok (.ifCond .eq 12, 3) := by decide +kernel
theorem dX4_walks_14 : decode cX4_walks 14 = .ok (.iload_n 3, 1) := by decide +kernel
theorem dX4_walks_15 : decode cX4_walks 15 = .ok (.ifCond .lt 8, 3) := by decide +kernel
theorem dX4_walks_18 : decode cX4_walks 18 = .ok (.iload_n 3, 1) := by decide +kernel
theorem dX4_walks_19 : decode cX4_walks 19 = .ok (.iconst 3, 1) := by decide +kernel
theorem dX4_walks_20 : decode cX4_walks 20 = .ok (.if_icmp .le 5, 3) := by decide +kernel
theorem dX4_walks_23 : decode cX4_walks 23 = .ok (.iconst (-1), 1) := by decide +kernel
theorem dX4_walks_24 : decode cX4_walks 24 = .ok (.ireturn, 1) := by decide +kernel
theorem dX4_walks_25 : decode cX4_walks 25 = .ok (.aload_n 0, 1) := by decide +kernel
theorem dX4_walks_26 : decode cX4_walks 26 = .ok (.iload_n 1, 1) := by decide +kernel
theorem dX4_walks_27 : decode cX4_walks 27 = .ok (.invokevirtual 58, 3) := by decide +kernel
theorem dX4_walks_30 : decode cX4_walks 30 = .ok (.astore 4, 2) := by decide +kernel
theorem dX4_walks_32 : decode cX4_walks 32 = .ok (.aload_n 0, 1) := by decide +kernel
theorem dX4_walks_33 : decode cX4_walks 33 = .ok (.iload_n 2, 1) := by decide +kernel
theorem dX4_walks_34 : decode cX4_walks 34 = .ok (.invokevirtual 58, 3) := by decide +kernel
theorem dX4_walks_37 : decode cX4_walks 37 = .ok (.astore 5, 2) := by decide +kernel
theorem dX4_walks_39 : decode cX4_walks 39 = .ok (.aload 4, 2) := by decide +kernel
theorem dX4_walks_41 : decode cX4_walks 41 = .ok (.ifnull 8, 3) := by decide +kernel
theorem dX4_walks_44 : decode cX4_walks 44 = .ok (.aload 5, 2) := by decide +kernel
theorem dX4_walks_46 : decode cX4_walks 46 = .ok (.ifnonnull 9, 3) := by decide +kernel
theorem dX4_walks_49 : decode cX4_walks 49 = .ok (.aload_n 0, 1) := by decide +kernel
theorem dX4_walks_50 : decode cX4_walks 50 = .ok (.iconst 1, 1) := by decide +kernel
theorem dX4_walks_51 : decode cX4_walks 51 = .ok (.invokevirtual 62, 3) := by decide +kernel
theorem dX4_walks_54 : decode cX4_walks 54 = .ok (.ireturn, 1) := by decide +kernel
theorem dX4_walks_55 : decode cX4_walks 55 = .ok (.aload_n 0, 1) := by decide +kernel
theorem dX4_walks_56 : decode cX4_walks 56 = .ok (.aload 4, 2) := by decide +kernel
theorem dX4_walks_58 : decode cX4_walks 58 = .ok (.getfield 90, 3) := by decide +kernel
theorem dX4_walks_61 : decode cX4_walks 61 = .ok (.aload 5, 2) := by decide +kernel
theorem dX4_walks_63 : decode cX4_walks 63 = .ok (.getfield 90, 3) := by decide +kernel
theorem dX4_walks_66 : decode cX4_walks 66 = .ok (.if_icmp .ne 22, 3) := by decide +kernel
theorem dX4_walks_69 : decode cX4_walks 69 = .ok (.aload_n 0, 1) := by decide +kernel
theorem dX4_walks_70 : decode cX4_walks 70 = .ok (.getfield 33, 3) := by decide +kernel
theorem dX4_walks_73 : decode cX4_walks 73 = .ok (.aload_n 0, 1) := by decide +kernel
theorem dX4_walks_74 : decode cX4_walks 74 = .ok (.getfield 26, 3) := by decide +kernel
theorem dX4_walks_77 : decode cX4_walks 77 = .ok (.aload 4, 2) := by decide +kernel
theorem dX4_walks_79 : decode cX4_walks 79 = .ok (.aload 5, 2) := by decide +kernel
theorem dX4_walks_81 : decode cX4_walks 81 = .ok (.iload_n 3, 1) := by decide +kernel
theorem dX4_walks_82 : decode cX4_walks 82 = .ok (.invokevirtual 167, 3) := by decide +kernel
theorem dX4_walks_85 : decode cX4_walks 85 = .ok (.goto 4, 3) := by decide +kernel
theorem dX4_walks_88 : decode cX4_walks 88 = .ok (.lconst 0, 1) := by decide +kernel
theorem dX4_walks_89 : decode cX4_walks 89 = .ok (.putfield 171, 3) := by decide +kernel
theorem dX4_walks_92 : decode cX4_walks 92 = .ok (.iconst 1, 1) := by decide +kernel
theorem dX4_walks_93 : decode cX4_walks 93 = .ok (.ireturn, 1) := by decide +kernel
theorem dX4_asked_0 : decode cX4_asked 0 = .ok (.aload_n 0, 1) := by decide +kernel
theorem dX4_asked_1 : decode cX4_asked 1 = .ok (.getfield 171, 3) := by decide +kernel
theorem dX4_asked_4 : decode cX4_asked 4 = .ok (.lreturn, 1) := by decide +kernel
theorem dX4_told_0 : decode cX4_told 0 = .ok (.iload_n 1, 1) := by decide +kernel
theorem dX4_told_1 : decode cX4_told 1 = .ok (.invokestatic 51, 3) := by decide +kernel
theorem dX4_told_4 : decode cX4_told 4 = .ok (.ifCond .eq 12, 3) := by decide +kernel
theorem dX4_told_7 : decode cX4_told 7 = .ok (.iload_n 2, 1) := by decide +kernel
theorem dX4_told_8 : decode cX4_told 8 = .ok (.ifCond .lt 8, 3) := by decide +kernel
theorem dX4_told_11 : decode cX4_told 11 = .ok (.iload_n 2, 1) := by decide +kernel
theorem dX4_told_12 : decode cX4_told 12 = .ok (.iconst 3, 1) := by decide +kernel
theorem dX4_told_13 : decode cX4_told 13 = .ok (.if_icmp .le 5, 3) := by decide +kernel
theorem dX4_told_16 : decode cX4_told 16 = .ok (.iconst (-1), 1) := by decide +kernel
theorem dX4_told_17 : decode cX4_told 17 = .ok (.ireturn, 1) := by decide +kernel
theorem dX4_told_18 : decode cX4_told 18 = .ok (.aload_n 0, 1) := by decide +kernel
theorem dX4_told_19 : decode cX4_told 19 = .ok (.iload_n 1, 1) := by decide +kernel
theorem dX4_told_20 : decode cX4_told 20 = .ok (.invokevirtual 58, 3) := by decide +kernel
theorem dX4_told_23 : decode cX4_told 23 = .ok (.astore_n 3, 1) := by decide +kernel
theorem dX4_told_24 : decode cX4_told 24 = .ok (.aload_n 3, 1) := by decide +kernel
theorem dX4_told_25 : decode cX4_told 25 = .ok (.ifnonnull 9, 3) := by decide +kernel
theorem dX4_told_28 : decode cX4_told 28 = .ok (.aload_n 0, 1) := by decide +kernel
theorem dX4_told_29 : decode cX4_told 29 = .ok (.iconst 1, 1) := by decide +kernel
theorem dX4_told_30 : decode cX4_told 30 = .ok (.invokevirtual 62, 3) := by decide +kernel
theorem dX4_told_33 : decode cX4_told 33 = .ok (.ireturn, 1) := by decide +kernel
theorem dX4_told_34 : decode cX4_told 34 = .ok (.iload_n 2, 1) := by decide +kernel
theorem dX4_told_35 : decode cX4_told 35 = .ok (.tableswitch 41 0 2 #[25, 30, 35], 25) := by decide +kernel
theorem dX4_told_60 : decode cX4_told 60 = .ok (.aload_n 3, 1) := by decide +kernel
theorem dX4_told_61 : decode cX4_told 61 = .ok (.getfield 90, 3) := by decide +kernel
theorem dX4_told_64 : decode cX4_told 64 = .ok (.ireturn, 1) := by decide +kernel
theorem dX4_told_65 : decode cX4_told 65 = .ok (.aload_n 3, 1) := by decide +kernel
theorem dX4_told_66 : decode cX4_told 66 = .ok (.getfield 73, 3) := by decide +kernel
theorem dX4_told_69 : decode cX4_told 69 = .ok (.ireturn, 1) := by decide +kernel
theorem dX4_told_70 : decode cX4_told 70 = .ok (.aload_n 3, 1) := by decide +kernel
theorem dX4_told_71 : decode cX4_told 71 = .ok (.iconst 0, 1) := by decide +kernel
theorem dX4_told_72 : decode cX4_told 72 = .ok (.invokevirtual 80, 3) := by decide +kernel
theorem dX4_told_75 : decode cX4_told 75 = .ok (.ireturn, 1) := by decide +kernel
theorem dX4_told_76 : decode cX4_told 76 = .ok (.aload_n 3, 1) := by decide +kernel
theorem dX4_told_77 : decode cX4_told 77 = .ok (.invokevirtual 175, 3) := by decide +kernel
theorem dX4_told_80 : decode cX4_told 80 = .ok (.ireturn, 1) := by decide +kernel
theorem dX4_count_0 : decode cX4_count 0 = .ok (.iload_n 1, 1) := by decide +kernel
theorem dX4_count_1 : decode cX4_count 1 = .ok (.tableswitch 42 0 2 #[27, 32, 37], 27) := by decide +kernel
theorem dX4_count_28 : decode cX4_count 28 = .ok (.aload_n 0, 1) := by decide +kernel
theorem dX4_count_29 : decode cX4_count 29 = .ok (.getfield 93, 3) := by decide +kernel
theorem dX4_count_32 : decode cX4_count 32 = .ok (.ireturn, 1) := by decide +kernel
theorem dX4_count_33 : decode cX4_count 33 = .ok (.aload_n 0, 1) := by decide +kernel
theorem dX4_count_34 : decode cX4_count 34 = .ok (.invokevirtual 179, 3) := by decide +kernel
theorem dX4_count_37 : decode cX4_count 37 = .ok (.ireturn, 1) := by decide +kernel
theorem dX4_count_38 : decode cX4_count 38 = .ok (.aload_n 0, 1) := by decide +kernel
theorem dX4_count_39 : decode cX4_count 39 = .ok (.invokevirtual 182, 3) := by decide +kernel
theorem dX4_count_42 : decode cX4_count 42 = .ok (.ireturn, 1) := by decide +kernel
theorem dX4_count_43 : decode cX4_count 43 = .ok (.iconst (-1), 1) := by decide +kernel
theorem dX4_count_44 : decode cX4_count 44 = .ok (.ireturn, 1) := by decide +kernel
theorem dX4_finding_0 : decode cX4_finding 0 = .ok (.aload_n 0, 1) := by decide +kernel
theorem dX4_finding_1 : decode cX4_finding 1 = .ok (.getfield 185, 3) := by decide +kernel
theorem dX4_finding_4 : decode cX4_finding 4 = .ok (.ireturn, 1) := by decide +kernel
theorem dX4_findings_0 : decode cX4_findings 0 = .ok (.iload_n 1, 1) := by decide +kernel
theorem dX4_findings_1 : decode cX4_findings 1 = .ok (.iconst 1, 1) := by decide +kernel
theorem dX4_findings_2 : decode cX4_findings 2 = .ok (.if_icmp .lt 17, 3) := by decide +kernel
theorem dX4_findings_5 : decode cX4_findings 5 = .ok (.iload_n 1, 1) := by decide +kernel
theorem dX4_findings_6 : decode cX4_findings 6 = .ok (.iconst 5, 1) := by decide +kernel
theorem dX4_findings_7 : decode cX4_findings 7 = .ok (.if_icmp .gt 12, 3) := by decide +kernel
theorem dX4_findings_10 : decode cX4_findings 10 = .ok (.aload_n 0, 1) := by decide +kernel
theorem dX4_findings_11 : decode cX4_findings 11 = .ok (.getfield 19, 3) := by decide +kernel
theorem dX4_findings_14 : decode cX4_findings 14 = .ok (.iload_n 1, 1) := by decide +kernel
theorem dX4_findings_15 : decode cX4_findings 15 = .ok (.iaload, 1) := by decide +kernel
theorem dX4_findings_16 : decode cX4_findings 16 = .ok (.goto 4, 3) := by decide +kernel
theorem dX4_findings_19 : decode cX4_findings 19 = .ok (.iconst (-1), 1) := by decide +kernel
theorem dX4_findings_20 : decode cX4_findings 20 = .ok (.ireturn, 1) := by decide +kernel
theorem dX4_digest_0 : decode cX4_digest 0 = .ok (.ldc2_w 188, 3) := by decide +kernel
theorem dX4_digest_3 : decode cX4_digest 3 = .ok (.aload_n 0, 1) := by decide +kernel
theorem dX4_digest_4 : decode cX4_digest 4 = .ok (.getfield 93, 3) := by decide +kernel
theorem dX4_digest_7 : decode cX4_digest 7 = .ok (.i2l, 1) := by decide +kernel
theorem dX4_digest_8 : decode cX4_digest 8 = .ok (.ladd, 1) := by decide +kernel
theorem dX4_digest_9 : decode cX4_digest 9 = .ok (.lstore_n 1, 1) := by decide +kernel
theorem dX4_digest_10 : decode cX4_digest 10 = .ok (.iconst 0, 1) := by decide +kernel
theorem dX4_digest_11 : decode cX4_digest 11 = .ok (.istore_n 3, 1) := by decide +kernel
theorem dX4_digest_12 : decode cX4_digest 12 = .ok (.iload_n 3, 1) := by decide +kernel
theorem dX4_digest_13 : decode cX4_digest 13 = .ok (.bipush 12, 2) := by decide +kernel
theorem dX4_digest_15 : decode cX4_digest 15 = .ok (.if_icmp .ge 38, 3) := by decide +kernel
theorem dX4_digest_18 : decode cX4_digest 18 = .ok (.aload_n 0, 1) := by decide +kernel
theorem dX4_digest_19 : decode cX4_digest 19 = .ok (.iload_n 3, 1) := by decide +kernel
theorem dX4_digest_20 : decode cX4_digest 20 = .ok (.invokevirtual 58, 3) := by decide +kernel
theorem dX4_digest_23 : decode cX4_digest 23 = .ok (.astore 4, 2) := by decide +kernel
theorem dX4_digest_25 : decode cX4_digest 25 = .ok (.aload 4, 2) := by decide +kernel
theorem dX4_digest_27 : decode cX4_digest 27 = .ok (.ifnonnull 13, 3) := by decide +kernel
theorem dX4_digest_30 : decode cX4_digest 30 = .ok (.ldc2_w 190, 3) := by decide +kernel
theorem dX4_digest_33 : decode cX4_digest 33 = .ok (.lload_n 1, 1) := by decide +kernel
theorem dX4_digest_34 : decode cX4_digest 34 = .ok (.lmul, 1) := by decide +kernel
theorem dX4_digest_35 : decode cX4_digest 35 = .ok (.lconst 1, 1) := by decide +kernel
theorem dX4_digest_36 : decode cX4_digest 36 = .ok (.lsub, 1) := by decide +kernel
theorem dX4_digest_37 : decode cX4_digest 37 = .ok (.goto 9, 3) := by decide +kernel
theorem dX4_digest_40 : decode cX4_digest 40 = .ok (.aload 4, 2) := by decide +kernel
theorem dX4_digest_42 : decode cX4_digest 42 = .ok (.lload_n 1, 1) := by decide +kernel
theorem dX4_digest_43 : decode cX4_digest 43 = .ok (.invokevirtual 192, 3) := by decide +kernel
theorem dX4_digest_46 : decode cX4_digest 46 = .ok (.lstore_n 1, 1) := by decide +kernel
theorem dX4_digest_47 : decode cX4_digest 47 = .ok (.iinc 3 1, 3) := by decide +kernel
theorem dX4_digest_50 : decode cX4_digest 50 = .ok (.goto (-38), 3) := by decide +kernel
theorem dX4_digest_53 : decode cX4_digest 53 = .ok (.lload_n 1, 1) := by decide +kernel
theorem dX4_digest_54 : decode cX4_digest 54 = .ok (.lreturn, 1) := by decide +kernel
theorem dX4_isPlace_0 : decode cX4_isPlace 0 = .ok (.iload_n 0, 1) := by decide +kernel
theorem dX4_isPlace_1 : decode cX4_isPlace 1 = .ok (.ifCond .lt 13, 3) := by decide +kernel
theorem dX4_isPlace_4 : decode cX4_isPlace 4 = .ok (.iload_n 0, 1) := by decide +kernel
theorem dX4_isPlace_5 : decode cX4_isPlace 5 = .ok (.bipush 12, 2) := by decide +kernel
theorem dX4_isPlace_7 : decode cX4_isPlace 7 = .ok (.if_icmp .ge 7, 3) := by decide +kernel
theorem dX4_isPlace_10 : decode cX4_isPlace 10 = .ok (.iconst 1, 1) := by decide +kernel
theorem dX4_isPlace_11 : decode cX4_isPlace 11 = .ok (.goto 4, 3) := by decide +kernel
theorem dX4_isPlace_14 : decode cX4_isPlace 14 = .ok (.iconst 0, 1) := by decide +kernel
theorem dX4_isPlace_15 : decode cX4_isPlace 15 = .ok (.ireturn, 1) := by decide +kernel
theorem dX4_isCards_0 : decode cX4_isCards 0 = .ok (.iload_n 0, 1) := by decide +kernel
theorem dX4_isCards_1 : decode cX4_isCards 1 = .ok (.ifCond .lt 13, 3) := by decide +kernel
theorem dX4_isCards_4 : decode cX4_isCards 4 = .ok (.iload_n 0, 1) := by decide +kernel
theorem dX4_isCards_5 : decode cX4_isCards 5 = .ok (.bipush 18, 2) := by decide +kernel
theorem dX4_isCards_7 : decode cX4_isCards 7 = .ok (.if_icmp .gt 7, 3) := by decide +kernel
theorem dX4_isCards_10 : decode cX4_isCards 10 = .ok (.iconst 1, 1) := by decide +kernel
theorem dX4_isCards_11 : decode cX4_isCards 11 = .ok (.goto 4, 3) := by decide +kernel
theorem dX4_isCards_14 : decode cX4_isCards 14 = .ok (.iconst 0, 1) := by decide +kernel
theorem dX4_isCards_15 : decode cX4_isCards 15 = .ok (.ireturn, 1) := by decide +kernel
theorem dX4_rowAt_0 : decode cX4_rowAt 0 = .ok (.iload_n 1, 1) := by decide +kernel
theorem dX4_rowAt_1 : decode cX4_rowAt 1 = .ok (.invokestatic 51, 3) := by decide +kernel
theorem dX4_rowAt_4 : decode cX4_rowAt 4 = .ok (.ifCond .eq 21, 3) := by decide +kernel
theorem dX4_rowAt_7 : decode cX4_rowAt 7 = .ok (.aload_n 0, 1) := by decide +kernel
theorem dX4_rowAt_8 : decode cX4_rowAt 8 = .ok (.getfield 15, 3) := by decide +kernel
theorem dX4_rowAt_11 : decode cX4_rowAt 11 = .ok (.iload_n 1, 1) := by decide +kernel
theorem dX4_rowAt_12 : decode cX4_rowAt 12 = .ok (.baload, 1) := by decide +kernel
theorem dX4_rowAt_13 : decode cX4_rowAt 13 = .ok (.ifCond .eq 12, 3) := by decide +kernel
theorem dX4_rowAt_16 : decode cX4_rowAt 16 = .ok (.aload_n 0, 1) := by decide +kernel
theorem dX4_rowAt_17 : decode cX4_rowAt 17 = .ok (.getfield 11, 3) := by decide +kernel
theorem dX4_rowAt_20 : decode cX4_rowAt 20 = .ok (.iload_n 1, 1) := by decide +kernel
theorem dX4_rowAt_21 : decode cX4_rowAt 21 = .ok (.aaload, 1) := by decide +kernel
theorem dX4_rowAt_22 : decode cX4_rowAt 22 = .ok (.goto 4, 3) := by decide +kernel
theorem dX4_rowAt_25 : decode cX4_rowAt 25 = .ok (.aconst_null, 1) := by decide +kernel
theorem dX4_rowAt_26 : decode cX4_rowAt 26 = .ok (.areturn, 1) := by decide +kernel
theorem dX4_found_0 : decode cX4_found 0 = .ok (.aload_n 0, 1) := by decide +kernel
theorem dX4_found_1 : decode cX4_found 1 = .ok (.iload_n 1, 1) := by decide +kernel
theorem dX4_found_2 : decode cX4_found 2 = .ok (.putfield 185, 3) := by decide +kernel
theorem dX4_found_5 : decode cX4_found 5 = .ok (.aload_n 0, 1) := by decide +kernel
theorem dX4_found_6 : decode cX4_found 6 = .ok (.getfield 19, 3) := by decide +kernel
theorem dX4_found_9 : decode cX4_found 9 = .ok (.iload_n 1, 1) := by decide +kernel
theorem dX4_found_10 : decode cX4_found 10 = .ok (.dup2, 1) := by decide +kernel
theorem dX4_found_11 : decode cX4_found 11 = .ok (.iaload, 1) := by decide +kernel
theorem dX4_found_12 : decode cX4_found 12 = .ok (.iconst 1, 1) := by decide +kernel
theorem dX4_found_13 : decode cX4_found 13 = .ok (.iadd, 1) := by decide +kernel
theorem dX4_found_14 : decode cX4_found 14 = .ok (.iastore, 1) := by decide +kernel
theorem dX4_found_15 : decode cX4_found 15 = .ok (.bipush (-3), 2) := by decide +kernel
theorem dX4_found_17 : decode cX4_found 17 = .ok (.ireturn, 1) := by decide +kernel
theorem dX4_rowsThere_0 : decode cX4_rowsThere 0 = .ok (.iconst 0, 1) := by decide +kernel
theorem dX4_rowsThere_1 : decode cX4_rowsThere 1 = .ok (.istore_n 1, 1) := by decide +kernel
theorem dX4_rowsThere_2 : decode cX4_rowsThere 2 = .ok (.iconst 0, 1) := by decide +kernel
theorem dX4_rowsThere_3 : decode cX4_rowsThere 3 = .ok (.istore_n 2, 1) := by decide +kernel
theorem dX4_rowsThere_4 : decode cX4_rowsThere 4 = .ok (.iload_n 2, 1) := by decide +kernel
theorem dX4_rowsThere_5 : decode cX4_rowsThere 5 = .ok (.bipush 12, 2) := by decide +kernel
theorem dX4_rowsThere_7 : decode cX4_rowsThere 7 = .ok (.if_icmp .ge 26, 3) := by decide +kernel
theorem dX4_rowsThere_10 : decode cX4_rowsThere 10 = .ok (.iload_n 1, 1) := by decide +kernel
theorem dX4_rowsThere_11 : decode cX4_rowsThere 11 = .ok (.aload_n 0, 1) := by decide +kernel
theorem dX4_rowsThere_12 : decode cX4_rowsThere 12 = .ok (.getfield 15, 3) := by decide +kernel
theorem dX4_rowsThere_15 : decode cX4_rowsThere 15 = .ok (.iload_n 2, 1) := by decide +kernel
theorem dX4_rowsThere_16 : decode cX4_rowsThere 16 = .ok (.baload, 1) := by decide +kernel
theorem dX4_rowsThere_17 : decode cX4_rowsThere 17 = .ok (.ifCond .eq 7, 3) := by decide +kernel
theorem dX4_rowsThere_20 : decode cX4_rowsThere 20 = .ok (.iconst 1, 1) := by decide +kernel
theorem dX4_rowsThere_21 : decode cX4_rowsThere 21 = .ok (.goto 4, 3) := by decide +kernel
theorem dX4_rowsThere_24 : decode cX4_rowsThere 24 = .ok (.iconst 0, 1) := by decide +kernel
theorem dX4_rowsThere_25 : decode cX4_rowsThere 25 = .ok (.iadd, 1) := by decide +kernel
theorem dX4_rowsThere_26 : decode cX4_rowsThere 26 = .ok (.istore_n 1, 1) := by decide +kernel
theorem dX4_rowsThere_27 : decode cX4_rowsThere 27 = .ok (.iinc 2 1, 3) := by decide +kernel
theorem dX4_rowsThere_30 : decode cX4_rowsThere 30 = .ok (.goto (-26), 3) := by decide +kernel
theorem dX4_rowsThere_33 : decode cX4_rowsThere 33 = .ok (.iload_n 1, 1) := by decide +kernel
theorem dX4_rowsThere_34 : decode cX4_rowsThere 34 = .ok (.ireturn, 1) := by decide +kernel
theorem dX4_cardsInAll_0 : decode cX4_cardsInAll 0 = .ok (.iconst 0, 1) := by decide +kernel
theorem dX4_cardsInAll_1 : decode cX4_cardsInAll 1 = .ok (.istore_n 1, 1) := by decide +kernel
theorem dX4_cardsInAll_2 : decode cX4_cardsInAll 2 = .ok (.iconst 0, 1) := by decide +kernel
theorem dX4_cardsInAll_3 : decode cX4_cardsInAll 3 = .ok (.istore_n 2, 1) := by decide +kernel
theorem dX4_cardsInAll_4 : decode cX4_cardsInAll 4 = .ok (.iload_n 2, 1) := by decide +kernel
theorem dX4_cardsInAll_5 : decode cX4_cardsInAll 5 = .ok (.bipush 12, 2) := by decide +kernel
theorem dX4_cardsInAll_7 : decode cX4_cardsInAll 7 = .ok (.if_icmp .ge 34, 3) := by decide +kernel
theorem dX4_cardsInAll_10 : decode cX4_cardsInAll 10 = .ok (.iload_n 1, 1) := by decide +kernel
theorem dX4_cardsInAll_11 : decode cX4_cardsInAll 11 = .ok (.aload_n 0, 1) := by decide +kernel
theorem dX4_cardsInAll_12 : decode cX4_cardsInAll 12 = .ok (.getfield 15, 3) := by decide +kernel
theorem dX4_cardsInAll_15 : decode cX4_cardsInAll 15 = .ok (.iload_n 2, 1) := by decide +kernel
theorem dX4_cardsInAll_16 : decode cX4_cardsInAll 16 = .ok (.baload, 1) := by decide +kernel
theorem dX4_cardsInAll_17 : decode cX4_cardsInAll 17 = .ok (.ifCond .eq 15, 3) := by decide +kernel
theorem dX4_cardsInAll_20 : decode cX4_cardsInAll 20 = .ok (.aload_n 0, 1) := by decide +kernel
theorem dX4_cardsInAll_21 : decode cX4_cardsInAll 21 = .ok (.getfield 11, 3) := by decide +kernel
theorem dX4_cardsInAll_24 : decode cX4_cardsInAll 24 = .ok (.iload_n 2, 1) := by decide +kernel
theorem dX4_cardsInAll_25 : decode cX4_cardsInAll 25 = .ok (.aaload, 1) := by decide +kernel
theorem dX4_cardsInAll_26 : decode cX4_cardsInAll 26 = .ok (.getfield 90, 3) := by decide +kernel
theorem dX4_cardsInAll_29 : decode cX4_cardsInAll 29 = .ok (.goto 4, 3) := by decide +kernel
theorem dX4_cardsInAll_32 : decode cX4_cardsInAll 32 = .ok (.iconst 0, 1) := by decide +kernel
theorem dX4_cardsInAll_33 : decode cX4_cardsInAll 33 = .ok (.iadd, 1) := by decide +kernel
theorem dX4_cardsInAll_34 : decode cX4_cardsInAll 34 = .ok (.istore_n 1, 1) := by decide +kernel
theorem dX4_cardsInAll_35 : decode cX4_cardsInAll 35 = .ok (.iinc 2 1, 3) := by decide +kernel
theorem dX4_cardsInAll_38 : decode cX4_cardsInAll 38 = .ok (.goto (-34), 3) := by decide +kernel
theorem dX4_cardsInAll_41 : decode cX4_cardsInAll 41 = .ok (.iload_n 1, 1) := by decide +kernel
theorem dX4_cardsInAll_42 : decode cX4_cardsInAll 42 = .ok (.ireturn, 1) := by decide +kernel
theorem dX4_chartOf_0 : decode cX4_chartOf 0 = .ok (.aload_n 0, 1) := by decide +kernel
theorem dX4_chartOf_1 : decode cX4_chartOf 1 = .ok (.getfield 93, 3) := by decide +kernel
theorem dX4_chartOf_4 : decode cX4_chartOf 4 = .ok (.bipush 19, 2) := by decide +kernel
theorem dX4_chartOf_6 : decode cX4_chartOf 6 = .ok (.imul, 1) := by decide +kernel
theorem dX4_chartOf_7 : decode cX4_chartOf 7 = .ok (.iload_n 1, 1) := by decide +kernel
theorem dX4_chartOf_8 : decode cX4_chartOf 8 = .ok (.iadd, 1) := by decide +kernel
theorem dX4_chartOf_9 : decode cX4_chartOf 9 = .ok (.istore_n 2, 1) := by decide +kernel
theorem dX4_chartOf_10 : decode cX4_chartOf 10 = .ok (.aload_n 0, 1) := by decide +kernel
theorem dX4_chartOf_11 : decode cX4_chartOf 11 = .ok (.getfield 39, 3) := by decide +kernel
theorem dX4_chartOf_14 : decode cX4_chartOf 14 = .ok (.iload_n 2, 1) := by decide +kernel
theorem dX4_chartOf_15 : decode cX4_chartOf 15 = .ok (.aaload, 1) := by decide +kernel
theorem dX4_chartOf_16 : decode cX4_chartOf 16 = .ok (.astore_n 3, 1) := by decide +kernel
theorem dX4_chartOf_17 : decode cX4_chartOf 17 = .ok (.aload_n 3, 1) := by decide +kernel
theorem dX4_chartOf_18 : decode cX4_chartOf 18 = .ok (.ifnonnull 94, 3) := by decide +kernel
theorem dX4_chartOf_21 : decode cX4_chartOf 21 = .ok (.new 37, 3) := by decide +kernel
theorem dX4_chartOf_24 : decode cX4_chartOf 24 = .ok (.dup, 1) := by decide +kernel
theorem dX4_chartOf_25 : decode cX4_chartOf 25 = .ok (.aload_n 0, 1) := by decide +kernel
theorem dX4_chartOf_26 : decode cX4_chartOf 26 = .ok (.getfield 26, 3) := by decide +kernel
theorem dX4_chartOf_29 : decode cX4_chartOf 29 = .ok (.iload_n 1, 1) := by decide +kernel
theorem dX4_chartOf_30 : decode cX4_chartOf 30 = .ok (.invokevirtual 116, 3) := by decide +kernel
theorem dX4_chartOf_33 : decode cX4_chartOf 33 = .ok (.invokespecial 196, 3) := by decide +kernel
theorem dX4_chartOf_36 : decode cX4_chartOf 36 = .ok (.astore_n 3, 1) := by decide +kernel
theorem dX4_chartOf_37 : decode cX4_chartOf 37 = .ok (.iconst 0, 1) := by decide +kernel
theorem dX4_chartOf_38 : decode cX4_chartOf 38 = .ok (.istore 4, 2) := by decide +kernel
theorem dX4_chartOf_40 : decode cX4_chartOf 40 = .ok (.iload 4, 2) := by decide +kernel
theorem dX4_chartOf_42 : decode cX4_chartOf 42 = .ok (.aload_n 3, 1) := by decide +kernel
theorem dX4_chartOf_43 : decode cX4_chartOf 43 = .ok (.getfield 198, 3) := by decide +kernel
theorem dX4_chartOf_46 : decode cX4_chartOf 46 = .ok (.if_icmp .ge 55, 3) := by decide +kernel
theorem dX4_chartOf_49 : decode cX4_chartOf 49 = .ok (.aload_n 0, 1) := by decide +kernel
theorem dX4_chartOf_50 : decode cX4_chartOf 50 = .ok (.getfield 26, 3) := by decide +kernel
theorem dX4_chartOf_53 : decode cX4_chartOf 53 = .ok (.aload_n 0, 1) := by decide +kernel
theorem dX4_chartOf_54 : decode cX4_chartOf 54 = .ok (.getfield 44, 3) := by decide +kernel
theorem dX4_chartOf_57 : decode cX4_chartOf 57 = .ok (.iload_n 1, 1) := by decide +kernel
theorem dX4_chartOf_58 : decode cX4_chartOf 58 = .ok (.iload 4, 2) := by decide +kernel
theorem dX4_chartOf_60 : decode cX4_chartOf 60 = .ok (.invokevirtual 119, 3) := by decide +kernel
theorem dX4_chartOf_63 : decode cX4_chartOf 63 = .ok (.aload_n 0, 1) := by decide +kernel
theorem dX4_chartOf_64 : decode cX4_chartOf 64 = .ok (.getfield 48, 3) := by decide +kernel
theorem dX4_chartOf_67 : decode cX4_chartOf 67 = .ok (.aload_n 0, 1) := by decide +kernel
theorem dX4_chartOf_68 : decode cX4_chartOf 68 = .ok (.getfield 44, 3) := by decide +kernel
theorem dX4_chartOf_71 : decode cX4_chartOf 71 = .ok (.aload_n 0, 1) := by decide +kernel
theorem dX4_chartOf_72 : decode cX4_chartOf 72 = .ok (.getfield 93, 3) := by decide +kernel
theorem dX4_chartOf_75 : decode cX4_chartOf 75 = .ok (.invokestatic 200, 3) := by decide +kernel
theorem dX4_chartOf_78 : decode cX4_chartOf 78 = .ok (.aload_n 3, 1) := by decide +kernel
theorem dX4_chartOf_79 : decode cX4_chartOf 79 = .ok (.iload 4, 2) := by decide +kernel
theorem dX4_chartOf_81 : decode cX4_chartOf 81 = .ok (.aload_n 0, 1) := by decide +kernel
theorem dX4_chartOf_82 : decode cX4_chartOf 82 = .ok (.getfield 26, 3) := by decide +kernel
theorem dX4_chartOf_85 : decode cX4_chartOf 85 = .ok (.aload_n 0, 1) := by decide +kernel
theorem dX4_chartOf_86 : decode cX4_chartOf 86 = .ok (.getfield 48, 3) := by decide +kernel
theorem dX4_chartOf_89 : decode cX4_chartOf 89 = .ok (.invokevirtual 100, 3) := by decide +kernel
theorem dX4_chartOf_92 : decode cX4_chartOf 92 = .ok (.invokevirtual 204, 3) := by decide +kernel
theorem dX4_chartOf_95 : decode cX4_chartOf 95 = .ok (.iinc 4 1, 3) := by decide +kernel
theorem dX4_chartOf_98 : decode cX4_chartOf 98 = .ok (.goto (-58), 3) := by decide +kernel
theorem dX4_chartOf_101 : decode cX4_chartOf 101 = .ok (.aload_n 3, 1) := by decide +kernel
theorem dX4_chartOf_102 : decode cX4_chartOf 102 = .ok (.invokevirtual 208, 3) := by decide +kernel
theorem dX4_chartOf_105 : decode cX4_chartOf 105 = .ok (.aload_n 0, 1) := by decide +kernel
theorem dX4_chartOf_106 : decode cX4_chartOf 106 = .ok (.getfield 39, 3) := by decide +kernel
theorem dX4_chartOf_109 : decode cX4_chartOf 109 = .ok (.iload_n 2, 1) := by decide +kernel
theorem dX4_chartOf_110 : decode cX4_chartOf 110 = .ok (.aload_n 3, 1) := by decide +kernel
theorem dX4_chartOf_111 : decode cX4_chartOf 111 = .ok (.aastore, 1) := by decide +kernel
theorem dX4_chartOf_112 : decode cX4_chartOf 112 = .ok (.aload_n 3, 1) := by decide +kernel
theorem dX4_chartOf_113 : decode cX4_chartOf 113 = .ok (.areturn, 1) := by decide +kernel
theorem dX4_stepInto_0 : decode cX4_stepInto 0 = .ok (.aload_n 0, 1) := by decide +kernel
theorem dX4_stepInto_1 : decode cX4_stepInto 1 = .ok (.invokevirtual 55, 3) := by decide +kernel
theorem dX4_stepInto_4 : decode cX4_stepInto 4 = .ok (.iload_n 2, 1) := by decide +kernel
theorem dX4_stepInto_5 : decode cX4_stepInto 5 = .ok (.tableswitch 52 1 3 #[27, 35, 44], 27) := by decide +kernel
theorem dX4_stepInto_32 : decode cX4_stepInto 32 = .ok (.aload_n 0, 1) := by decide +kernel
theorem dX4_stepInto_33 : decode cX4_stepInto 33 = .ok (.aload_n 1, 1) := by decide +kernel
theorem dX4_stepInto_34 : decode cX4_stepInto 34 = .ok (.invokestatic 211, 3) := by decide +kernel
theorem dX4_stepInto_37 : decode cX4_stepInto 37 = .ok (.goto 26, 3) := by decide +kernel
theorem dX4_stepInto_40 : decode cX4_stepInto 40 = .ok (.aload_n 0, 1) := by decide +kernel
theorem dX4_stepInto_41 : decode cX4_stepInto 41 = .ok (.aload_n 1, 1) := by decide +kernel
theorem dX4_stepInto_42 : decode cX4_stepInto 42 = .ok (.iconst 2, 1) := by decide +kernel
theorem dX4_stepInto_43 : decode cX4_stepInto 43 = .ok (.invokestatic 215, 3) := by decide +kernel
theorem dX4_stepInto_46 : decode cX4_stepInto 46 = .ok (.goto 17, 3) := by decide +kernel
theorem dX4_stepInto_49 : decode cX4_stepInto 49 = .ok (.aload_n 0, 1) := by decide +kernel
theorem dX4_stepInto_50 : decode cX4_stepInto 50 = .ok (.aload_n 1, 1) := by decide +kernel
theorem dX4_stepInto_51 : decode cX4_stepInto 51 = .ok (.invokestatic 218, 3) := by decide +kernel
theorem dX4_stepInto_54 : decode cX4_stepInto 54 = .ok (.goto 9, 3) := by decide +kernel
theorem dX4_stepInto_57 : decode cX4_stepInto 57 = .ok (.aload_n 0, 1) := by decide +kernel
theorem dX4_stepInto_58 : decode cX4_stepInto 58 = .ok (.aload_n 1, 1) := by decide +kernel
theorem dX4_stepInto_59 : decode cX4_stepInto 59 = .ok (.iconst 1, 1) := by decide +kernel
theorem dX4_stepInto_60 : decode cX4_stepInto 60 = .ok (.invokestatic 215, 3) := by decide +kernel
theorem dX4_stepInto_63 : decode cX4_stepInto 63 = .ok (.return_, 1) := by decide +kernel
theorem dX4_giveFromEach_0 : decode cX4_giveFromEach 0 = .ok (.iconst 0, 1) := by decide +kernel
theorem dX4_giveFromEach_1 : decode cX4_giveFromEach 1 = .ok (.istore_n 3, 1) := by decide +kernel
theorem dX4_giveFromEach_2 : decode cX4_giveFromEach 2 = .ok (.iconst 0, 1) := by decide +kernel
theorem dX4_giveFromEach_3 : decode cX4_giveFromEach 3 = .ok (.istore 4, 2) := by decide +kernel
theorem dX4_giveFromEach_5 : decode cX4_giveFromEach 5 = .ok (.iload 4, 2) := by decide +kernel
theorem dX4_giveFromEach_7 : decode cX4_giveFromEach 7 = .ok (.aload_n 1, 1) := by decide +kernel
theorem dX4_giveFromEach_8 : decode cX4_giveFromEach 8 = .ok (.getfield 73, 3) := by decide +kernel
theorem dX4_giveFromEach_11 : decode cX4_giveFromEach 11 = .ok (.if_icmp .ge 39, 3) := by decide +kernel
theorem dX4_giveFromEach_14 : decode cX4_giveFromEach 14 = .ok (.iload_n 2, 1) := by decide +kernel
theorem dX4_giveFromEach_15 : decode cX4_giveFromEach 15 = .ok (.aload_n 1, 1) := by decide +kernel
theorem dX4_giveFromEach_16 : decode cX4_giveFromEach 16 = .ok (.iload 4, 2) := by decide +kernel
theorem dX4_giveFromEach_18 : decode cX4_giveFromEach 18 = .ok (.invokevirtual 80, 3) := by decide +kernel
theorem dX4_giveFromEach_21 : decode cX4_giveFromEach 21 = .ok (.invokestatic 221, 3) := by decide +kernel
theorem dX4_giveFromEach_24 : decode cX4_giveFromEach 24 = .ok (.istore 5, 2) := by decide +kernel
theorem dX4_giveFromEach_26 : decode cX4_giveFromEach 26 = .ok (.aload_n 0, 1) := by decide +kernel
theorem dX4_giveFromEach_27 : decode cX4_giveFromEach 27 = .ok (.aload_n 1, 1) := by decide +kernel
theorem dX4_giveFromEach_28 : decode cX4_giveFromEach 28 = .ok (.iload 4, 2) := by decide +kernel
theorem dX4_giveFromEach_30 : decode cX4_giveFromEach 30 = .ok (.invokevirtual 80, 3) := by decide +kernel
theorem dX4_giveFromEach_33 : decode cX4_giveFromEach 33 = .ok (.iload 5, 2) := by decide +kernel
theorem dX4_giveFromEach_35 : decode cX4_giveFromEach 35 = .ok (.isub, 1) := by decide +kernel
theorem dX4_giveFromEach_36 : decode cX4_giveFromEach 36 = .ok (.invokevirtual 69, 3) := by decide +kernel
theorem dX4_giveFromEach_39 : decode cX4_giveFromEach 39 = .ok (.iload_n 3, 1) := by decide +kernel
theorem dX4_giveFromEach_40 : decode cX4_giveFromEach 40 = .ok (.iload 5, 2) := by decide +kernel
theorem dX4_giveFromEach_42 : decode cX4_giveFromEach 42 = .ok (.iadd, 1) := by decide +kernel
theorem dX4_giveFromEach_43 : decode cX4_giveFromEach 43 = .ok (.istore_n 3, 1) := by decide +kernel
theorem dX4_giveFromEach_44 : decode cX4_giveFromEach 44 = .ok (.iinc 4 1, 3) := by decide +kernel
theorem dX4_giveFromEach_47 : decode cX4_giveFromEach 47 = .ok (.goto (-42), 3) := by decide +kernel
theorem dX4_giveFromEach_50 : decode cX4_giveFromEach 50 = .ok (.aload_n 0, 1) := by decide +kernel
theorem dX4_giveFromEach_51 : decode cX4_giveFromEach 51 = .ok (.iload_n 3, 1) := by decide +kernel
theorem dX4_giveFromEach_52 : decode cX4_giveFromEach 52 = .ok (.invokevirtual 69, 3) := by decide +kernel
theorem dX4_giveFromEach_55 : decode cX4_giveFromEach 55 = .ok (.return_, 1) := by decide +kernel
theorem dX4_giveFromGreatest_0 : decode cX4_giveFromGreatest 0 = .ok (.aload_n 1, 1) := by decide +kernel
theorem dX4_giveFromGreatest_1 : decode cX4_giveFromGreatest 1 = .ok (.getfield 73, 3) := by decide +kernel
theorem dX4_giveFromGreatest_4 : decode cX4_giveFromGreatest 4 = .ok (.ifCond .le 31, 3) := by decide +kernel
theorem dX4_giveFromGreatest_7 : decode cX4_giveFromGreatest 7 = .ok (.aload_n 0, 1) := by decide +kernel
theorem dX4_giveFromGreatest_8 : decode cX4_giveFromGreatest 8 = .ok (.aload_n 1, 1) := by decide +kernel
theorem dX4_giveFromGreatest_9 : decode cX4_giveFromGreatest 9 = .ok (.iconst 0, 1) := by decide +kernel
theorem dX4_giveFromGreatest_10 : decode cX4_giveFromGreatest 10 = .ok (.invokevirtual 80, 3) := by decide +kernel
theorem dX4_giveFromGreatest_13 : decode cX4_giveFromGreatest 13 = .ok (.iconst 1, 1) := by decide +kernel
theorem dX4_giveFromGreatest_14 : decode cX4_giveFromGreatest 14 = .ok (.isub, 1) := by decide +kernel
theorem dX4_giveFromGreatest_15 : decode cX4_giveFromGreatest 15 = .ok (.invokevirtual 69, 3) := by decide +kernel
theorem dX4_giveFromGreatest_18 : decode cX4_giveFromGreatest 18 = .ok (.aload_n 0, 1) := by decide +kernel
theorem dX4_giveFromGreatest_19 : decode cX4_giveFromGreatest 19 = .ok (.aload_n 1, 1) := by decide +kernel
theorem dX4_giveFromGreatest_20 : decode cX4_giveFromGreatest 20 = .ok (.iconst 1, 1) := by decide +kernel
theorem dX4_giveFromGreatest_21 : decode cX4_giveFromGreatest 21 = .ok (.aload_n 1, 1) := by decide +kernel
theorem dX4_giveFromGreatest_22 : decode cX4_giveFromGreatest 22 = .ok (.getfield 73, 3) := by decide +kernel
theorem dX4_giveFromGreatest_25 : decode cX4_giveFromGreatest 25 = .ok (.iconst 1, 1) := by decide +kernel
theorem dX4_giveFromGreatest_26 : decode cX4_giveFromGreatest 26 = .ok (.isub, 1) := by decide +kernel
theorem dX4_giveFromGreatest_27 : decode cX4_giveFromGreatest 27 = .ok (.invokevirtual 86, 3) := by decide +kernel
theorem dX4_giveFromGreatest_30 : decode cX4_giveFromGreatest 30 = .ok (.aload_n 0, 1) := by decide +kernel
theorem dX4_giveFromGreatest_31 : decode cX4_giveFromGreatest 31 = .ok (.iconst 1, 1) := by decide +kernel
theorem dX4_giveFromGreatest_32 : decode cX4_giveFromGreatest 32 = .ok (.invokevirtual 69, 3) := by decide +kernel
theorem dX4_giveFromGreatest_35 : decode cX4_giveFromGreatest 35 = .ok (.return_, 1) := by decide +kernel
theorem dX4_giveLeastAway_0 : decode cX4_giveLeastAway 0 = .ok (.aload_n 1, 1) := by decide +kernel
theorem dX4_giveLeastAway_1 : decode cX4_giveLeastAway 1 = .ok (.getfield 73, 3) := by decide +kernel
theorem dX4_giveLeastAway_4 : decode cX4_giveLeastAway 4 = .ok (.iconst 1, 1) := by decide +kernel
theorem dX4_giveLeastAway_5 : decode cX4_giveLeastAway 5 = .ok (.isub, 1) := by decide +kernel
theorem dX4_giveLeastAway_6 : decode cX4_giveLeastAway 6 = .ok (.istore_n 2, 1) := by decide +kernel
theorem dX4_giveLeastAway_7 : decode cX4_giveLeastAway 7 = .ok (.aload_n 1, 1) := by decide +kernel
theorem dX4_giveLeastAway_8 : decode cX4_giveLeastAway 8 = .ok (.iload_n 2, 1) := by decide +kernel
theorem dX4_giveLeastAway_9 : decode cX4_giveLeastAway 9 = .ok (.invokevirtual 80, 3) := by decide +kernel
theorem dX4_giveLeastAway_12 : decode cX4_giveLeastAway 12 = .ok (.istore_n 3, 1) := by decide +kernel
theorem dX4_giveLeastAway_13 : decode cX4_giveLeastAway 13 = .ok (.iconst 0, 1) := by decide +kernel
theorem dX4_giveLeastAway_14 : decode cX4_giveLeastAway 14 = .ok (.istore 4, 2) := by decide +kernel
theorem dX4_giveLeastAway_16 : decode cX4_giveLeastAway 16 = .ok (.iload 4, 2) := by decide +kernel
theorem dX4_giveLeastAway_18 : decode cX4_giveLeastAway 18 = .ok (.iload_n 2, 1) := by decide +kernel
theorem dX4_giveLeastAway_19 : decode cX4_giveLeastAway 19 = .ok (.if_icmp .ge 38, 3) := by decide +kernel
theorem dX4_giveLeastAway_22 : decode cX4_giveLeastAway 22 = .ok (.iload_n 3, 1) := by decide +kernel
theorem dX4_giveLeastAway_23 : decode cX4_giveLeastAway 23 = .ok (.ifCond .le 7, 3) := by decide +kernel
theorem dX4_giveLeastAway_26 : decode cX4_giveLeastAway 26 = .ok (.iconst 1, 1) := by decide +kernel
theorem dX4_giveLeastAway_27 : decode cX4_giveLeastAway 27 = .ok (.goto 4, 3) := by decide +kernel
theorem dX4_giveLeastAway_30 : decode cX4_giveLeastAway 30 = .ok (.iconst 0, 1) := by decide +kernel
theorem dX4_giveLeastAway_31 : decode cX4_giveLeastAway 31 = .ok (.istore 5, 2) := by decide +kernel
theorem dX4_giveLeastAway_33 : decode cX4_giveLeastAway 33 = .ok (.aload_n 0, 1) := by decide +kernel
theorem dX4_giveLeastAway_34 : decode cX4_giveLeastAway 34 = .ok (.aload_n 1, 1) := by decide +kernel
theorem dX4_giveLeastAway_35 : decode cX4_giveLeastAway 35 = .ok (.iload 4, 2) := by decide +kernel
theorem dX4_giveLeastAway_37 : decode cX4_giveLeastAway 37 = .ok (.invokevirtual 80, 3) := by decide +kernel
theorem dX4_giveLeastAway_40 : decode cX4_giveLeastAway 40 = .ok (.iload 5, 2) := by decide +kernel
theorem dX4_giveLeastAway_42 : decode cX4_giveLeastAway 42 = .ok (.iadd, 1) := by decide +kernel
theorem dX4_giveLeastAway_43 : decode cX4_giveLeastAway 43 = .ok (.invokevirtual 69, 3) := by decide +kernel
theorem dX4_giveLeastAway_46 : decode cX4_giveLeastAway 46 = .ok (.iload_n 3, 1) := by decide +kernel
theorem dX4_giveLeastAway_47 : decode cX4_giveLeastAway 47 = .ok (.iload 5, 2) := by decide +kernel
theorem dX4_giveLeastAway_49 : decode cX4_giveLeastAway 49 = .ok (.isub, 1) := by decide +kernel
theorem dX4_giveLeastAway_50 : decode cX4_giveLeastAway 50 = .ok (.istore_n 3, 1) := by decide +kernel
theorem dX4_giveLeastAway_51 : decode cX4_giveLeastAway 51 = .ok (.iinc 4 1, 3) := by decide +kernel
theorem dX4_giveLeastAway_54 : decode cX4_giveLeastAway 54 = .ok (.goto (-38), 3) := by decide +kernel
theorem dX4_giveLeastAway_57 : decode cX4_giveLeastAway 57 = .ok (.aload_n 0, 1) := by decide +kernel
theorem dX4_giveLeastAway_58 : decode cX4_giveLeastAway 58 = .ok (.iload_n 3, 1) := by decide +kernel
theorem dX4_giveLeastAway_59 : decode cX4_giveLeastAway 59 = .ok (.invokevirtual 69, 3) := by decide +kernel
theorem dX4_giveLeastAway_62 : decode cX4_giveLeastAway 62 = .ok (.return_, 1) := by decide +kernel
