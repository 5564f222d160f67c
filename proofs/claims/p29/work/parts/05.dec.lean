theorem dX0_init_0 : decode cX0_init 0 = .ok (.aload_n 0, 1) := by decide +kernel
theorem dX0_init_1 : decode cX0_init 1 = .ok (.invokespecial 3, 3) := by decide +kernel
theorem dX0_init_4 : decode cX0_init 4 = .ok (.aload_n 0, 1) := by decide +kernel
theorem dX0_init_5 : decode cX0_init 5 = .ok (.bipush 20, 2) := by decide +kernel
theorem dX0_init_7 : decode cX0_init 7 = .ok (.anewarray 9, 3) := by decide +kernel
theorem dX0_init_10 : decode cX0_init 10 = .ok (.putfield 11, 3) := by decide +kernel
theorem dX0_init_13 : decode cX0_init 13 = .ok (.aload_n 0, 1) := by decide +kernel
theorem dX0_init_14 : decode cX0_init 14 = .ok (.iconst 3, 1) := by decide +kernel
theorem dX0_init_15 : decode cX0_init 15 = .ok (.newarray .int, 2) := by decide +kernel
theorem dX0_init_17 : decode cX0_init 17 = .ok (.putfield 17, 3) := by decide +kernel
theorem dX0_init_20 : decode cX0_init 20 = .ok (.return_, 1) := by decide +kernel
theorem dX0_open_0 : decode cX0_open 0 = .ok (.aload_n 0, 1) := by decide +kernel
theorem dX0_open_1 : decode cX0_open 1 = .ok (.iconst 0, 1) := by decide +kernel
theorem dX0_open_2 : decode cX0_open 2 = .ok (.putfield 21, 3) := by decide +kernel
theorem dX0_open_5 : decode cX0_open 5 = .ok (.aload_n 0, 1) := by decide +kernel
theorem dX0_open_6 : decode cX0_open 6 = .ok (.aload_n 1, 1) := by decide +kernel
theorem dX0_open_7 : decode cX0_open 7 = .ok (.getfield 25, 3) := by decide +kernel
theorem dX0_open_10 : decode cX0_open 10 = .ok (.iload_n 2, 1) := by decide +kernel
theorem dX0_open_11 : decode cX0_open 11 = .ok (.invokevirtual 31, 3) := by decide +kernel
theorem dX0_open_14 : decode cX0_open 14 = .ok (.aload_n 0, 1) := by decide +kernel
theorem dX0_open_15 : decode cX0_open 15 = .ok (.aload_n 1, 1) := by decide +kernel
theorem dX0_open_16 : decode cX0_open 16 = .ok (.getfield 35, 3) := by decide +kernel
theorem dX0_open_19 : decode cX0_open 19 = .ok (.iload_n 2, 1) := by decide +kernel
theorem dX0_open_20 : decode cX0_open 20 = .ok (.invokevirtual 31, 3) := by decide +kernel
theorem dX0_open_23 : decode cX0_open 23 = .ok (.return_, 1) := by decide +kernel
theorem dX0_enterAll_0 : decode cX0_enterAll 0 = .ok (.iconst 0, 1) := by decide +kernel
theorem dX0_enterAll_1 : decode cX0_enterAll 1 = .ok (.istore_n 3, 1) := by decide +kernel
theorem dX0_enterAll_2 : decode cX0_enterAll 2 = .ok (.iload_n 3, 1) := by decide +kernel
theorem dX0_enterAll_3 : decode cX0_enterAll 3 = .ok (.aload_n 1, 1) := by decide +kernel
theorem dX0_enterAll_4 : decode cX0_enterAll 4 = .ok (.getfield 38, 3) := by decide +kernel
theorem dX0_enterAll_7 : decode cX0_enterAll 7 = .ok (.if_icmp .ge 110, 3) := by decide +kernel
theorem dX0_enterAll_10 : decode cX0_enterAll 10 = .ok (.aload_n 0, 1) := by decide +kernel
theorem dX0_enterAll_11 : decode cX0_enterAll 11 = .ok (.getfield 21, 3) := by decide +kernel
theorem dX0_enterAll_14 : decode cX0_enterAll 14 = .ok (.aload_n 0, 1) := by decide +kernel
theorem dX0_enterAll_15 : decode cX0_enterAll 15 = .ok (.getfield 11, 3) := by decide +kernel
theorem dX0_enterAll_18 : decode cX0_enterAll 18 = .ok (.arraylength, 1) := by decide +kernel
theorem dX0_enterAll_19 : decode cX0_enterAll 19 = .ok (.if_icmp .ge 98, 3) := by decide +kernel
theorem dX0_enterAll_22 : decode cX0_enterAll 22 = .ok (.aload_n 1, 1) := by decide +kernel
theorem dX0_enterAll_23 : decode cX0_enterAll 23 = .ok (.getfield 41, 3) := by decide +kernel
theorem dX0_enterAll_26 : decode cX0_enterAll 26 = .ok (.iload_n 3, 1) := by decide +kernel
theorem dX0_enterAll_27 : decode cX0_enterAll 27 = .ok (.aaload, 1) := by decide +kernel
theorem dX0_enterAll_28 : decode cX0_enterAll 28 = .ok (.astore 4, 2) := by decide +kernel
theorem dX0_enterAll_30 : decode cX0_enterAll 30 = .ok (.aload 4, 2) := by decide +kernel
theorem dX0_enterAll_32 : decode cX0_enterAll 32 = .ok (.iload_n 2, 1) := by decide +kernel
theorem dX0_enterAll_33 : decode cX0_enterAll 33 = .ok (.invokevirtual 44, 3) := by decide +kernel
theorem dX0_enterAll_36 : decode cX0_enterAll 36 = .ok (.ifCond .ne 6, 3) := by decide +kernel
theorem dX0_enterAll_39 : decode cX0_enterAll 39 = .ok (.goto 72, 3) := by decide +kernel
theorem dX0_enterAll_42 : decode cX0_enterAll 42 = .ok (.aload_n 0, 1) := by decide +kernel
theorem dX0_enterAll_43 : decode cX0_enterAll 43 = .ok (.getfield 21, 3) := by decide +kernel
theorem dX0_enterAll_46 : decode cX0_enterAll 46 = .ok (.istore 5, 2) := by decide +kernel
theorem dX0_enterAll_48 : decode cX0_enterAll 48 = .ok (.iload 5, 2) := by decide +kernel
theorem dX0_enterAll_50 : decode cX0_enterAll 50 = .ok (.ifCond .le 42, 3) := by decide +kernel
theorem dX0_enterAll_53 : decode cX0_enterAll 53 = .ok (.aload 4, 2) := by decide +kernel
theorem dX0_enterAll_55 : decode cX0_enterAll 55 = .ok (.aload_n 0, 1) := by decide +kernel
theorem dX0_enterAll_56 : decode cX0_enterAll 56 = .ok (.getfield 11, 3) := by decide +kernel
theorem dX0_enterAll_59 : decode cX0_enterAll 59 = .ok (.iload 5, 2) := by decide +kernel
theorem dX0_enterAll_61 : decode cX0_enterAll 61 = .ok (.iconst 1, 1) := by decide +kernel
theorem dX0_enterAll_62 : decode cX0_enterAll 62 = .ok (.isub, 1) := by decide +kernel
theorem dX0_enterAll_63 : decode cX0_enterAll 63 = .ok (.aaload, 1) := by decide +kernel
theorem dX0_enterAll_64 : decode cX0_enterAll 64 = .ok (.invokevirtual 48, 3) := by decide +kernel
theorem dX0_enterAll_67 : decode cX0_enterAll 67 = .ok (.ifCond .eq 25, 3) := by decide +kernel
theorem dX0_enterAll_70 : decode cX0_enterAll 70 = .ok (.aload_n 0, 1) := by decide +kernel
theorem dX0_enterAll_71 : decode cX0_enterAll 71 = .ok (.getfield 11, 3) := by decide +kernel
theorem dX0_enterAll_74 : decode cX0_enterAll 74 = .ok (.iload 5, 2) := by decide +kernel
theorem dX0_enterAll_76 : decode cX0_enterAll 76 = .ok (.aload_n 0, 1) := by decide +kernel
theorem dX0_enterAll_77 : decode cX0_enterAll 77 = .ok (.getfield 11, 3) := by decide +kernel
theorem dX0_enterAll_80 : decode cX0_enterAll 80 = .ok (.iload 5, 2) := by decide +kernel
theorem dX0_enterAll_82 : decode cX0_enterAll 82 = .ok (.iconst 1, 1) := by decide +kernel
theorem dX0_enterAll_83 : decode cX0_enterAll 83 = .ok (.isub, 1) := by decide +kernel
theorem dX0_enterAll_84 : decode cX0_enterAll 84 = .ok (.aaload, 1) := by decide +kernel
theorem dX0_enterAll_85 : decode cX0_enterAll 85 = .ok (.aastore, 1) := by decide +kernel
theorem dX0_enterAll_86 : decode cX0_enterAll 86 = .ok (.iinc 5 (-1), 3) := by decide +kernel
theorem dX0_enterAll_89 : decode cX0_enterAll 89 = .ok (.goto (-41), 3) := by decide +kernel
theorem dX0_enterAll_92 : decode cX0_enterAll 92 = .ok (.aload_n 0, 1) := by decide +kernel
theorem dX0_enterAll_93 : decode cX0_enterAll 93 = .ok (.getfield 11, 3) := by decide +kernel
theorem dX0_enterAll_96 : decode cX0_enterAll 96 = .ok (.iload 5, 2) := by decide +kernel
theorem dX0_enterAll_98 : decode cX0_enterAll 98 = .ok (.aload 4, 2) := by decide +kernel
theorem dX0_enterAll_100 : decode cX0_enterAll 100 = .ok (.aastore, 1) := by decide +kernel
theorem dX0_enterAll_101 : decode cX0_enterAll 101 = .ok (.aload_n 0, 1) := by decide +kernel
theorem dX0_enterAll_102 : decode cX0_enterAll 102 = .ok (.dup, 1) := by decide +kernel
theorem dX0_enterAll_103 : decode cX0_enterAll 103 = .ok (.getfield 21, 3) := by decide +kernel
theorem dX0_enterAll_106 : decode cX0_enterAll 106 = .ok (.iconst 1, 1) := by decide +kernel
theorem dX0_enterAll_107 : decode cX0_enterAll 107 = .ok (.iadd, 1) := by decide +kernel
theorem dX0_enterAll_108 : decode cX0_enterAll 108 = .ok (.putfield 21, 3) := by decide +kernel
theorem dX0_enterAll_111 : decode cX0_enterAll 111 = .ok (.iinc 3 1, 3) := by decide +kernel
theorem dX0_enterAll_114 : decode cX0_enterAll 114 = .ok (.goto (-112), 3) := by decide +kernel
theorem dX0_enterAll_117 : decode cX0_enterAll 117 = .ok (.return_, 1) := by decide +kernel
theorem dX0_reasonAgainst_0 : decode cX0_reasonAgainst 0 = .ok (.iconst 0, 1) := by decide +kernel
theorem dX0_reasonAgainst_1 : decode cX0_reasonAgainst 1 = .ok (.istore_n 3, 1) := by decide +kernel
theorem dX0_reasonAgainst_2 : decode cX0_reasonAgainst 2 = .ok (.iload_n 3, 1) := by decide +kernel
theorem dX0_reasonAgainst_3 : decode cX0_reasonAgainst 3 = .ok (.aload_n 0, 1) := by decide +kernel
theorem dX0_reasonAgainst_4 : decode cX0_reasonAgainst 4 = .ok (.getfield 21, 3) := by decide +kernel
theorem dX0_reasonAgainst_7 : decode cX0_reasonAgainst 7 = .ok (.if_icmp .ge 41, 3) := by decide +kernel
theorem dX0_reasonAgainst_10 : decode cX0_reasonAgainst 10 = .ok (.aload_n 0, 1) := by decide +kernel
theorem dX0_reasonAgainst_11 : decode cX0_reasonAgainst 11 = .ok (.getfield 11, 3) := by decide +kernel
theorem dX0_reasonAgainst_14 : decode cX0_reasonAgainst 14 = .ok (.iload_n 3, 1) := by decide +kernel
theorem dX0_reasonAgainst_15 : decode cX0_reasonAgainst 15 = .ok (.aaload, 1) := by decide +kernel
theorem dX0_reasonAgainst_16 : decode cX0_reasonAgainst 16 = .ok (.getfield 52, 3) := by decide +kernel
theorem dX0_reasonAgainst_19 : decode cX0_reasonAgainst 19 = .ok (.aload_n 1, 1) := by decide +kernel
theorem dX0_reasonAgainst_20 : decode cX0_reasonAgainst 20 = .ok (.getfield 52, 3) := by decide +kernel
theorem dX0_reasonAgainst_23 : decode cX0_reasonAgainst 23 = .ok (.if_icmp .lt 19, 3) := by decide +kernel
theorem dX0_reasonAgainst_26 : decode cX0_reasonAgainst 26 = .ok (.aload_n 0, 1) := by decide +kernel
theorem dX0_reasonAgainst_27 : decode cX0_reasonAgainst 27 = .ok (.getfield 11, 3) := by decide +kernel
theorem dX0_reasonAgainst_30 : decode cX0_reasonAgainst 30 = .ok (.iload_n 3, 1) := by decide +kernel
theorem dX0_reasonAgainst_31 : decode cX0_reasonAgainst 31 = .ok (.aaload, 1) := by decide +kernel
theorem dX0_reasonAgainst_32 : decode cX0_reasonAgainst 32 = .ok (.aload_n 1, 1) := by decide +kernel
theorem dX0_reasonAgainst_33 : decode cX0_reasonAgainst 33 = .ok (.iload_n 2, 1) := by decide +kernel
theorem dX0_reasonAgainst_34 : decode cX0_reasonAgainst 34 = .ok (.invokevirtual 55, 3) := by decide +kernel
theorem dX0_reasonAgainst_37 : decode cX0_reasonAgainst 37 = .ok (.ifCond .eq 5, 3) := by decide +kernel
theorem dX0_reasonAgainst_40 : decode cX0_reasonAgainst 40 = .ok (.iconst 2, 1) := by decide +kernel
theorem dX0_reasonAgainst_41 : decode cX0_reasonAgainst 41 = .ok (.ireturn, 1) := by decide +kernel
theorem dX0_reasonAgainst_42 : decode cX0_reasonAgainst 42 = .ok (.iinc 3 1, 3) := by decide +kernel
theorem dX0_reasonAgainst_45 : decode cX0_reasonAgainst 45 = .ok (.goto (-43), 3) := by decide +kernel
theorem dX0_reasonAgainst_48 : decode cX0_reasonAgainst 48 = .ok (.aload_n 0, 1) := by decide +kernel
theorem dX0_reasonAgainst_49 : decode cX0_reasonAgainst 49 = .ok (.aload_n 1, 1) := by decide +kernel
theorem dX0_reasonAgainst_50 : decode cX0_reasonAgainst 50 = .ok (.iload_n 2, 1) := by decide +kernel
theorem dX0_reasonAgainst_51 : decode cX0_reasonAgainst 51 = .ok (.invokevirtual 59, 3) := by decide +kernel
theorem dX0_reasonAgainst_54 : decode cX0_reasonAgainst 54 = .ok (.ifCond .eq 7, 3) := by decide +kernel
theorem dX0_reasonAgainst_57 : decode cX0_reasonAgainst 57 = .ok (.iconst 0, 1) := by decide +kernel
theorem dX0_reasonAgainst_58 : decode cX0_reasonAgainst 58 = .ok (.goto 4, 3) := by decide +kernel
theorem dX0_reasonAgainst_61 : decode cX0_reasonAgainst 61 = .ok (.iconst 3, 1) := by decide +kernel
theorem dX0_reasonAgainst_62 : decode cX0_reasonAgainst 62 = .ok (.ireturn, 1) := by decide +kernel
theorem dX0_canBeCleanedWith_0 : decode cX0_canBeCleanedWith 0 = .ok (.aload_n 0, 1) := by decide +kernel
theorem dX0_canBeCleanedWith_1 : decode cX0_canBeCleanedWith 1 = .ok (.invokevirtual 62, 3) := by decide +kernel
theorem dX0_canBeCleanedWith_4 : decode cX0_canBeCleanedWith 4 = .ok (.iconst 1, 1) := by decide +kernel
theorem dX0_canBeCleanedWith_5 : decode cX0_canBeCleanedWith 5 = .ok (.istore_n 3, 1) := by decide +kernel
theorem dX0_canBeCleanedWith_6 : decode cX0_canBeCleanedWith 6 = .ok (.iconst 0, 1) := by decide +kernel
theorem dX0_canBeCleanedWith_7 : decode cX0_canBeCleanedWith 7 = .ok (.istore 4, 2) := by decide +kernel
theorem dX0_canBeCleanedWith_9 : decode cX0_canBeCleanedWith 9 = .ok (.iload 4, 2) := by decide +kernel
theorem dX0_canBeCleanedWith_11 : decode cX0_canBeCleanedWith 11 = .ok (.aload_n 0, 1) := by decide +kernel
theorem dX0_canBeCleanedWith_12 : decode cX0_canBeCleanedWith 12 = .ok (.getfield 21, 3) := by decide +kernel
theorem dX0_canBeCleanedWith_15 : decode cX0_canBeCleanedWith 15 = .ok (.if_icmp .ge 69, 3) := by decide +kernel
theorem dX0_canBeCleanedWith_18 : decode cX0_canBeCleanedWith 18 = .ok (.aload_n 0, 1) := by decide +kernel
theorem dX0_canBeCleanedWith_19 : decode cX0_canBeCleanedWith 19 = .ok (.getfield 11, 3) := by decide +kernel
theorem dX0_canBeCleanedWith_22 : decode cX0_canBeCleanedWith 22 = .ok (.iload 4, 2) := by decide +kernel
theorem dX0_canBeCleanedWith_24 : decode cX0_canBeCleanedWith 24 = .ok (.aaload, 1) := by decide +kernel
theorem dX0_canBeCleanedWith_25 : decode cX0_canBeCleanedWith 25 = .ok (.astore 5, 2) := by decide +kernel
theorem dX0_canBeCleanedWith_27 : decode cX0_canBeCleanedWith 27 = .ok (.aload 5, 2) := by decide +kernel
theorem dX0_canBeCleanedWith_29 : decode cX0_canBeCleanedWith 29 = .ok (.aload_n 1, 1) := by decide +kernel
theorem dX0_canBeCleanedWith_30 : decode cX0_canBeCleanedWith 30 = .ok (.iload_n 2, 1) := by decide +kernel
theorem dX0_canBeCleanedWith_31 : decode cX0_canBeCleanedWith 31 = .ok (.invokevirtual 55, 3) := by decide +kernel
theorem dX0_canBeCleanedWith_34 : decode cX0_canBeCleanedWith 34 = .ok (.ifCond .eq 6, 3) := by decide +kernel
theorem dX0_canBeCleanedWith_37 : decode cX0_canBeCleanedWith 37 = .ok (.goto 41, 3) := by decide +kernel
theorem dX0_canBeCleanedWith_40 : decode cX0_canBeCleanedWith 40 = .ok (.iload_n 3, 1) := by decide +kernel
theorem dX0_canBeCleanedWith_41 : decode cX0_canBeCleanedWith 41 = .ok (.ifCond .eq 25, 3) := by decide +kernel
theorem dX0_canBeCleanedWith_44 : decode cX0_canBeCleanedWith 44 = .ok (.aload_n 1, 1) := by decide +kernel
theorem dX0_canBeCleanedWith_45 : decode cX0_canBeCleanedWith 45 = .ok (.aload 5, 2) := by decide +kernel
theorem dX0_canBeCleanedWith_47 : decode cX0_canBeCleanedWith 47 = .ok (.invokevirtual 48, 3) := by decide +kernel
theorem dX0_canBeCleanedWith_50 : decode cX0_canBeCleanedWith 50 = .ok (.ifCond .eq 16, 3) := by decide +kernel
theorem dX0_canBeCleanedWith_53 : decode cX0_canBeCleanedWith 53 = .ok (.iconst 0, 1) := by decide +kernel
theorem dX0_canBeCleanedWith_54 : decode cX0_canBeCleanedWith 54 = .ok (.istore_n 3, 1) := by decide +kernel
theorem dX0_canBeCleanedWith_55 : decode cX0_canBeCleanedWith 55 = .ok (.aload_n 0, 1) := by decide +kernel
theorem dX0_canBeCleanedWith_56 : decode cX0_canBeCleanedWith 56 = .ok (.aload_n 1, 1) := by decide +kernel
theorem dX0_canBeCleanedWith_57 : decode cX0_canBeCleanedWith 57 = .ok (.iload_n 2, 1) := by decide +kernel
theorem dX0_canBeCleanedWith_58 : decode cX0_canBeCleanedWith 58 = .ok (.invokevirtual 65, 3) := by decide +kernel
theorem dX0_canBeCleanedWith_61 : decode cX0_canBeCleanedWith 61 = .ok (.ifCond .ne 5, 3) := by decide +kernel
theorem dX0_canBeCleanedWith_64 : decode cX0_canBeCleanedWith 64 = .ok (.iconst 0, 1) := by decide +kernel
theorem dX0_canBeCleanedWith_65 : decode cX0_canBeCleanedWith 65 = .ok (.ireturn, 1) := by decide +kernel
theorem dX0_canBeCleanedWith_66 : decode cX0_canBeCleanedWith 66 = .ok (.aload_n 0, 1) := by decide +kernel
theorem dX0_canBeCleanedWith_67 : decode cX0_canBeCleanedWith 67 = .ok (.aload 5, 2) := by decide +kernel
theorem dX0_canBeCleanedWith_69 : decode cX0_canBeCleanedWith 69 = .ok (.iload_n 2, 1) := by decide +kernel
theorem dX0_canBeCleanedWith_70 : decode cX0_canBeCleanedWith 70 = .ok (.invokevirtual 65, 3) := by decide +kernel
theorem dX0_canBeCleanedWith_73 : decode cX0_canBeCleanedWith 73 = .ok (.ifCond .ne 5, 3) := by decide +kernel
theorem dX0_canBeCleanedWith_76 : decode cX0_canBeCleanedWith 76 = .ok (.iconst 0, 1) := by decide +kernel
theorem dX0_canBeCleanedWith_77 : decode cX0_canBeCleanedWith 77 = .ok (.ireturn, 1) := by decide +kernel
theorem dX0_canBeCleanedWith_78 : decode cX0_canBeCleanedWith 78 = .ok (.iinc 4 1, 3) := by decide +kernel
theorem dX0_canBeCleanedWith_81 : decode cX0_canBeCleanedWith 81 = .ok (.goto (-72), 3) := by decide +kernel
theorem dX0_canBeCleanedWith_84 : decode cX0_canBeCleanedWith 84 = .ok (.iload_n 3, 1) := by decide +kernel
theorem dX0_canBeCleanedWith_85 : decode cX0_canBeCleanedWith 85 = .ok (.ifCond .eq 12, 3) := by decide +kernel
theorem dX0_canBeCleanedWith_88 : decode cX0_canBeCleanedWith 88 = .ok (.aload_n 0, 1) := by decide +kernel
theorem dX0_canBeCleanedWith_89 : decode cX0_canBeCleanedWith 89 = .ok (.aload_n 1, 1) := by decide +kernel
theorem dX0_canBeCleanedWith_90 : decode cX0_canBeCleanedWith 90 = .ok (.iload_n 2, 1) := by decide +kernel
theorem dX0_canBeCleanedWith_91 : decode cX0_canBeCleanedWith 91 = .ok (.invokevirtual 65, 3) := by decide +kernel
theorem dX0_canBeCleanedWith_94 : decode cX0_canBeCleanedWith 94 = .ok (.ifCond .eq 7, 3) := by decide +kernel
theorem dX0_canBeCleanedWith_97 : decode cX0_canBeCleanedWith 97 = .ok (.iconst 1, 1) := by decide +kernel
theorem dX0_canBeCleanedWith_98 : decode cX0_canBeCleanedWith 98 = .ok (.goto 4, 3) := by decide +kernel
theorem dX0_canBeCleanedWith_101 : decode cX0_canBeCleanedWith 101 = .ok (.iconst 0, 1) := by decide +kernel
theorem dX0_canBeCleanedWith_102 : decode cX0_canBeCleanedWith 102 = .ok (.ireturn, 1) := by decide +kernel
theorem dX0_canBeCleaned_0 : decode cX0_canBeCleaned 0 = .ok (.aload_n 0, 1) := by decide +kernel
theorem dX0_canBeCleaned_1 : decode cX0_canBeCleaned 1 = .ok (.invokevirtual 62, 3) := by decide +kernel
theorem dX0_canBeCleaned_4 : decode cX0_canBeCleaned 4 = .ok (.iconst 0, 1) := by decide +kernel
theorem dX0_canBeCleaned_5 : decode cX0_canBeCleaned 5 = .ok (.istore_n 2, 1) := by decide +kernel
theorem dX0_canBeCleaned_6 : decode cX0_canBeCleaned 6 = .ok (.iload_n 2, 1) := by decide +kernel
theorem dX0_canBeCleaned_7 : decode cX0_canBeCleaned 7 = .ok (.aload_n 0, 1) := by decide +kernel
theorem dX0_canBeCleaned_8 : decode cX0_canBeCleaned 8 = .ok (.getfield 21, 3) := by decide +kernel
theorem dX0_canBeCleaned_11 : decode cX0_canBeCleaned 11 = .ok (.if_icmp .ge 25, 3) := by decide +kernel
theorem dX0_canBeCleaned_14 : decode cX0_canBeCleaned 14 = .ok (.aload_n 0, 1) := by decide +kernel
theorem dX0_canBeCleaned_15 : decode cX0_canBeCleaned 15 = .ok (.aload_n 0, 1) := by decide +kernel
theorem dX0_canBeCleaned_16 : decode cX0_canBeCleaned 16 = .ok (.getfield 11, 3) := by decide +kernel
theorem dX0_canBeCleaned_19 : decode cX0_canBeCleaned 19 = .ok (.iload_n 2, 1) := by decide +kernel
theorem dX0_canBeCleaned_20 : decode cX0_canBeCleaned 20 = .ok (.aaload, 1) := by decide +kernel
theorem dX0_canBeCleaned_21 : decode cX0_canBeCleaned 21 = .ok (.iload_n 1, 1) := by decide +kernel
theorem dX0_canBeCleaned_22 : decode cX0_canBeCleaned 22 = .ok (.invokevirtual 65, 3) := by decide +kernel
theorem dX0_canBeCleaned_25 : decode cX0_canBeCleaned 25 = .ok (.ifCond .ne 5, 3) := by decide +kernel
theorem dX0_canBeCleaned_28 : decode cX0_canBeCleaned 28 = .ok (.iconst 0, 1) := by decide +kernel
theorem dX0_canBeCleaned_29 : decode cX0_canBeCleaned 29 = .ok (.ireturn, 1) := by decide +kernel
theorem dX0_canBeCleaned_30 : decode cX0_canBeCleaned 30 = .ok (.iinc 2 1, 3) := by decide +kernel
theorem dX0_canBeCleaned_33 : decode cX0_canBeCleaned 33 = .ok (.goto (-27), 3) := by decide +kernel
theorem dX0_canBeCleaned_36 : decode cX0_canBeCleaned 36 = .ok (.iconst 1, 1) := by decide +kernel
theorem dX0_canBeCleaned_37 : decode cX0_canBeCleaned 37 = .ok (.ireturn, 1) := by decide +kernel
theorem dX0_startCleaning_0 : decode cX0_startCleaning 0 = .ok (.aload_n 0, 1) := by decide +kernel
theorem dX0_startCleaning_1 : decode cX0_startCleaning 1 = .ok (.iconst 0, 1) := by decide +kernel
theorem dX0_startCleaning_2 : decode cX0_startCleaning 2 = .ok (.putfield 68, 3) := by decide +kernel
theorem dX0_startCleaning_5 : decode cX0_startCleaning 5 = .ok (.iconst 0, 1) := by decide +kernel
theorem dX0_startCleaning_6 : decode cX0_startCleaning 6 = .ok (.istore_n 1, 1) := by decide +kernel
theorem dX0_startCleaning_7 : decode cX0_startCleaning 7 = .ok (.iload_n 1, 1) := by decide +kernel
theorem dX0_startCleaning_8 : decode cX0_startCleaning 8 = .ok (.iconst 3, 1) := by decide +kernel
theorem dX0_startCleaning_9 : decode cX0_startCleaning 9 = .ok (.if_icmp .ge 16, 3) := by decide +kernel
theorem dX0_startCleaning_12 : decode cX0_startCleaning 12 = .ok (.aload_n 0, 1) := by decide +kernel
theorem dX0_startCleaning_13 : decode cX0_startCleaning 13 = .ok (.getfield 17, 3) := by decide +kernel
theorem dX0_startCleaning_16 : decode cX0_startCleaning 16 = .ok (.iload_n 1, 1) := by decide +kernel
theorem dX0_startCleaning_17 : decode cX0_startCleaning 17 = .ok (.iconst 0, 1) := by decide +kernel
theorem dX0_startCleaning_18 : decode cX0_startCleaning 18 = .ok (.iastore, 1) := by decide +kernel
theorem dX0_startCleaning_19 : decode cX0_startCleaning 19 = .ok (.iinc 1 1, 3) := by decide +kernel
theorem dX0_startCleaning_22 : decode cX0_startCleaning 22 = .ok (.goto (-15), 3) := by decide +kernel
theorem dX0_startCleaning_25 : decode cX0_startCleaning 25 = .ok (.return_, 1) := by decide +kernel
theorem dX0_isServed_0 : decode cX0_isServed 0 = .ok (.aload_n 1, 1) := by decide +kernel
theorem dX0_isServed_1 : decode cX0_isServed 1 = .ok (.getfield 71, 3) := by decide +kernel
theorem dX0_isServed_4 : decode cX0_isServed 4 = .ok (.aload_n 0, 1) := by decide +kernel
theorem dX0_isServed_5 : decode cX0_isServed 5 = .ok (.getfield 17, 3) := by decide +kernel
theorem dX0_isServed_8 : decode cX0_isServed 8 = .ok (.aload_n 1, 1) := by decide +kernel
theorem dX0_isServed_9 : decode cX0_isServed 9 = .ok (.getfield 74, 3) := by decide +kernel
theorem dX0_isServed_12 : decode cX0_isServed 12 = .ok (.iaload, 1) := by decide +kernel
theorem dX0_isServed_13 : decode cX0_isServed 13 = .ok (.if_icmp .ge 5, 3) := by decide +kernel
theorem dX0_isServed_16 : decode cX0_isServed 16 = .ok (.iconst 0, 1) := by decide +kernel
theorem dX0_isServed_17 : decode cX0_isServed 17 = .ok (.ireturn, 1) := by decide +kernel
theorem dX0_isServed_18 : decode cX0_isServed 18 = .ok (.aload_n 1, 1) := by decide +kernel
theorem dX0_isServed_19 : decode cX0_isServed 19 = .ok (.getfield 77, 3) := by decide +kernel
theorem dX0_isServed_22 : decode cX0_isServed 22 = .ok (.aload_n 0, 1) := by decide +kernel
theorem dX0_isServed_23 : decode cX0_isServed 23 = .ok (.getfield 68, 3) := by decide +kernel
theorem dX0_isServed_26 : decode cX0_isServed 26 = .ok (.if_icmp .le 10, 3) := by decide +kernel
theorem dX0_isServed_29 : decode cX0_isServed 29 = .ok (.aload_n 1, 1) := by decide +kernel
theorem dX0_isServed_30 : decode cX0_isServed 30 = .ok (.getfield 77, 3) := by decide +kernel
theorem dX0_isServed_33 : decode cX0_isServed 33 = .ok (.goto 7, 3) := by decide +kernel
theorem dX0_isServed_36 : decode cX0_isServed 36 = .ok (.aload_n 0, 1) := by decide +kernel
theorem dX0_isServed_37 : decode cX0_isServed 37 = .ok (.getfield 68, 3) := by decide +kernel
theorem dX0_isServed_40 : decode cX0_isServed 40 = .ok (.istore_n 3, 1) := by decide +kernel
theorem dX0_isServed_41 : decode cX0_isServed 41 = .ok (.aload_n 0, 1) := by decide +kernel
theorem dX0_isServed_42 : decode cX0_isServed 42 = .ok (.iload_n 3, 1) := by decide +kernel
theorem dX0_isServed_43 : decode cX0_isServed 43 = .ok (.iload_n 2, 1) := by decide +kernel
theorem dX0_isServed_44 : decode cX0_isServed 44 = .ok (.iadd, 1) := by decide +kernel
theorem dX0_isServed_45 : decode cX0_isServed 45 = .ok (.putfield 68, 3) := by decide +kernel
theorem dX0_isServed_48 : decode cX0_isServed 48 = .ok (.aload_n 0, 1) := by decide +kernel
theorem dX0_isServed_49 : decode cX0_isServed 49 = .ok (.getfield 17, 3) := by decide +kernel
theorem dX0_isServed_52 : decode cX0_isServed 52 = .ok (.aload_n 1, 1) := by decide +kernel
theorem dX0_isServed_53 : decode cX0_isServed 53 = .ok (.getfield 74, 3) := by decide +kernel
theorem dX0_isServed_56 : decode cX0_isServed 56 = .ok (.aload_n 0, 1) := by decide +kernel
theorem dX0_isServed_57 : decode cX0_isServed 57 = .ok (.getfield 68, 3) := by decide +kernel
theorem dX0_isServed_60 : decode cX0_isServed 60 = .ok (.iastore, 1) := by decide +kernel
theorem dX0_isServed_61 : decode cX0_isServed 61 = .ok (.iconst 1, 1) := by decide +kernel
theorem dX0_isServed_62 : decode cX0_isServed 62 = .ok (.ireturn, 1) := by decide +kernel
theorem dX0_tenantAt_0 : decode cX0_tenantAt 0 = .ok (.iconst 0, 1) := by decide +kernel
theorem dX0_tenantAt_1 : decode cX0_tenantAt 1 = .ok (.istore_n 3, 1) := by decide +kernel
theorem dX0_tenantAt_2 : decode cX0_tenantAt 2 = .ok (.iload_n 3, 1) := by decide +kernel
theorem dX0_tenantAt_3 : decode cX0_tenantAt 3 = .ok (.aload_n 0, 1) := by decide +kernel
theorem dX0_tenantAt_4 : decode cX0_tenantAt 4 = .ok (.getfield 21, 3) := by decide +kernel
theorem dX0_tenantAt_7 : decode cX0_tenantAt 7 = .ok (.if_icmp .ge 51, 3) := by decide +kernel
theorem dX0_tenantAt_10 : decode cX0_tenantAt 10 = .ok (.aload_n 0, 1) := by decide +kernel
theorem dX0_tenantAt_11 : decode cX0_tenantAt 11 = .ok (.getfield 11, 3) := by decide +kernel
theorem dX0_tenantAt_14 : decode cX0_tenantAt 14 = .ok (.iload_n 3, 1) := by decide +kernel
theorem dX0_tenantAt_15 : decode cX0_tenantAt 15 = .ok (.aaload, 1) := by decide +kernel
theorem dX0_tenantAt_16 : decode cX0_tenantAt 16 = .ok (.astore 4, 2) := by decide +kernel
theorem dX0_tenantAt_18 : decode cX0_tenantAt 18 = .ok (.aload 4, 2) := by decide +kernel
theorem dX0_tenantAt_20 : decode cX0_tenantAt 20 = .ok (.getfield 74, 3) := by decide +kernel
theorem dX0_tenantAt_23 : decode cX0_tenantAt 23 = .ok (.iload_n 1, 1) := by decide +kernel
theorem dX0_tenantAt_24 : decode cX0_tenantAt 24 = .ok (.if_icmp .ne 28, 3) := by decide +kernel
theorem dX0_tenantAt_27 : decode cX0_tenantAt 27 = .ok (.iload_n 2, 1) := by decide +kernel
theorem dX0_tenantAt_28 : decode cX0_tenantAt 28 = .ok (.aload 4, 2) := by decide +kernel
theorem dX0_tenantAt_30 : decode cX0_tenantAt 30 = .ok (.getfield 71, 3) := by decide +kernel
theorem dX0_tenantAt_33 : decode cX0_tenantAt 33 = .ok (.aload 4, 2) := by decide +kernel
theorem dX0_tenantAt_35 : decode cX0_tenantAt 35 = .ok (.getfield 77, 3) := by decide +kernel
theorem dX0_tenantAt_38 : decode cX0_tenantAt 38 = .ok (.iconst 1, 1) := by decide +kernel
theorem dX0_tenantAt_39 : decode cX0_tenantAt 39 = .ok (.isub, 1) := by decide +kernel
theorem dX0_tenantAt_40 : decode cX0_tenantAt 40 = .ok (.invokestatic 80, 3) := by decide +kernel
theorem dX0_tenantAt_43 : decode cX0_tenantAt 43 = .ok (.ifCond .eq 9, 3) := by decide +kernel
theorem dX0_tenantAt_46 : decode cX0_tenantAt 46 = .ok (.aload 4, 2) := by decide +kernel
theorem dX0_tenantAt_48 : decode cX0_tenantAt 48 = .ok (.getfield 84, 3) := by decide +kernel
theorem dX0_tenantAt_51 : decode cX0_tenantAt 51 = .ok (.ireturn, 1) := by decide +kernel
theorem dX0_tenantAt_52 : decode cX0_tenantAt 52 = .ok (.iinc 3 1, 3) := by decide +kernel
theorem dX0_tenantAt_55 : decode cX0_tenantAt 55 = .ok (.goto (-53), 3) := by decide +kernel
theorem dX0_tenantAt_58 : decode cX0_tenantAt 58 = .ok (.iconst (-1), 1) := by decide +kernel
theorem dX0_tenantAt_59 : decode cX0_tenantAt 59 = .ok (.ireturn, 1) := by decide +kernel
theorem dX0_sumIn_0 : decode cX0_sumIn 0 = .ok (.iconst 0, 1) := by decide +kernel
theorem dX0_sumIn_1 : decode cX0_sumIn 1 = .ok (.istore_n 3, 1) := by decide +kernel
theorem dX0_sumIn_2 : decode cX0_sumIn 2 = .ok (.iconst 0, 1) := by decide +kernel
theorem dX0_sumIn_3 : decode cX0_sumIn 3 = .ok (.istore 4, 2) := by decide +kernel
theorem dX0_sumIn_5 : decode cX0_sumIn 5 = .ok (.iload 4, 2) := by decide +kernel
theorem dX0_sumIn_7 : decode cX0_sumIn 7 = .ok (.aload_n 0, 1) := by decide +kernel
theorem dX0_sumIn_8 : decode cX0_sumIn 8 = .ok (.getfield 21, 3) := by decide +kernel
theorem dX0_sumIn_11 : decode cX0_sumIn 11 = .ok (.if_icmp .ge 37, 3) := by decide +kernel
theorem dX0_sumIn_14 : decode cX0_sumIn 14 = .ok (.aload_n 0, 1) := by decide +kernel
theorem dX0_sumIn_15 : decode cX0_sumIn 15 = .ok (.getfield 11, 3) := by decide +kernel
theorem dX0_sumIn_18 : decode cX0_sumIn 18 = .ok (.iload 4, 2) := by decide +kernel
theorem dX0_sumIn_20 : decode cX0_sumIn 20 = .ok (.aaload, 1) := by decide +kernel
theorem dX0_sumIn_21 : decode cX0_sumIn 21 = .ok (.getfield 74, 3) := by decide +kernel
theorem dX0_sumIn_24 : decode cX0_sumIn 24 = .ok (.iload_n 1, 1) := by decide +kernel
theorem dX0_sumIn_25 : decode cX0_sumIn 25 = .ok (.if_icmp .ne 17, 3) := by decide +kernel
theorem dX0_sumIn_28 : decode cX0_sumIn 28 = .ok (.iload_n 3, 1) := by decide +kernel
theorem dX0_sumIn_29 : decode cX0_sumIn 29 = .ok (.aload_n 0, 1) := by decide +kernel
theorem dX0_sumIn_30 : decode cX0_sumIn 30 = .ok (.getfield 11, 3) := by decide +kernel
theorem dX0_sumIn_33 : decode cX0_sumIn 33 = .ok (.iload 4, 2) := by decide +kernel
theorem dX0_sumIn_35 : decode cX0_sumIn 35 = .ok (.aaload, 1) := by decide +kernel
theorem dX0_sumIn_36 : decode cX0_sumIn 36 = .ok (.iload_n 2, 1) := by decide +kernel
theorem dX0_sumIn_37 : decode cX0_sumIn 37 = .ok (.invokevirtual 87, 3) := by decide +kernel
theorem dX0_sumIn_40 : decode cX0_sumIn 40 = .ok (.iadd, 1) := by decide +kernel
theorem dX0_sumIn_41 : decode cX0_sumIn 41 = .ok (.istore_n 3, 1) := by decide +kernel
theorem dX0_sumIn_42 : decode cX0_sumIn 42 = .ok (.iinc 4 1, 3) := by decide +kernel
theorem dX0_sumIn_45 : decode cX0_sumIn 45 = .ok (.goto (-40), 3) := by decide +kernel
theorem dX0_sumIn_48 : decode cX0_sumIn 48 = .ok (.iload_n 3, 1) := by decide +kernel
theorem dX0_sumIn_49 : decode cX0_sumIn 49 = .ok (.ireturn, 1) := by decide +kernel
theorem dX0_hoursWithoutTenant_0 : decode cX0_hoursWithoutTenant 0 = .ok (.iconst 0, 1) := by decide +kernel
theorem dX0_hoursWithoutTenant_1 : decode cX0_hoursWithoutTenant 1 = .ok (.istore_n 2, 1) := by decide +kernel
theorem dX0_hoursWithoutTenant_2 : decode cX0_hoursWithoutTenant 2 = .ok (.iconst 0, 1) := by decide +kernel
theorem dX0_hoursWithoutTenant_3 : decode cX0_hoursWithoutTenant 3 = .ok (.istore_n 3, 1) := by decide +kernel
theorem dX0_hoursWithoutTenant_4 : decode cX0_hoursWithoutTenant 4 = .ok (.iload_n 3, 1) := by decide +kernel
theorem dX0_hoursWithoutTenant_5 : decode cX0_hoursWithoutTenant 5 = .ok (.bipush 24, 2) := by decide +kernel
theorem dX0_hoursWithoutTenant_7 : decode cX0_hoursWithoutTenant 7 = .ok (.if_icmp .ge 22, 3) := by decide +kernel
theorem dX0_hoursWithoutTenant_10 : decode cX0_hoursWithoutTenant 10 = .ok (.aload_n 0, 1) := by decide +kernel
theorem dX0_hoursWithoutTenant_11 : decode cX0_hoursWithoutTenant 11 = .ok (.iload_n 1, 1) := by decide +kernel
theorem dX0_hoursWithoutTenant_12 : decode cX0_hoursWithoutTenant 12 = .ok (.iload_n 3, 1) := by decide +kernel
theorem dX0_hoursWithoutTenant_13 : decode cX0_hoursWithoutTenant 13 = .ok (.invokevirtual 91, 3) := by decide +kernel
theorem dX0_hoursWithoutTenant_16 : decode cX0_hoursWithoutTenant 16 = .ok (.iconst (-1), 1) := by decide +kernel
theorem dX0_hoursWithoutTenant_17 : decode cX0_hoursWithoutTenant 17 = .ok (.if_icmp .ne 6, 3) := by decide +kernel
theorem dX0_hoursWithoutTenant_20 : decode cX0_hoursWithoutTenant 20 = .ok (.iinc 2 1, 3) := by decide +kernel
theorem dX0_hoursWithoutTenant_23 : decode cX0_hoursWithoutTenant 23 = .ok (.iinc 3 1, 3) := by decide +kernel
theorem dX0_hoursWithoutTenant_26 : decode cX0_hoursWithoutTenant 26 = .ok (.goto (-22), 3) := by decide +kernel
theorem dX0_hoursWithoutTenant_29 : decode cX0_hoursWithoutTenant 29 = .ok (.iload_n 2, 1) := by decide +kernel
theorem dX0_hoursWithoutTenant_30 : decode cX0_hoursWithoutTenant 30 = .ok (.ireturn, 1) := by decide +kernel
theorem dX1_init_0 : decode cX1_init 0 = .ok (.aload_n 0, 1) := by decide +kernel
theorem dX1_init_1 : decode cX1_init 1 = .ok (.invokespecial 3, 3) := by decide +kernel
theorem dX1_init_4 : decode cX1_init 4 = .ok (.return_, 1) := by decide +kernel
theorem dX1_place_0 : decode cX1_place 0 = .ok (.aload_n 0, 1) := by decide +kernel
theorem dX1_place_1 : decode cX1_place 1 = .ok (.iload_n 1, 1) := by decide +kernel
theorem dX1_place_2 : decode cX1_place 2 = .ok (.putfield 9, 3) := by decide +kernel
theorem dX1_place_5 : decode cX1_place 5 = .ok (.aload_n 0, 1) := by decide +kernel
theorem dX1_place_6 : decode cX1_place 6 = .ok (.iload_n 2, 1) := by decide +kernel
theorem dX1_place_7 : decode cX1_place 7 = .ok (.putfield 15, 3) := by decide +kernel
theorem dX1_place_10 : decode cX1_place 10 = .ok (.aload_n 0, 1) := by decide +kernel
theorem dX1_place_11 : decode cX1_place 11 = .ok (.iload_n 3, 1) := by decide +kernel
theorem dX1_place_12 : decode cX1_place 12 = .ok (.putfield 18, 3) := by decide +kernel
theorem dX1_place_15 : decode cX1_place 15 = .ok (.aload_n 0, 1) := by decide +kernel
theorem dX1_place_16 : decode cX1_place 16 = .ok (.iload 4, 2) := by decide +kernel
theorem dX1_place_18 : decode cX1_place 18 = .ok (.putfield 21, 3) := by decide +kernel
theorem dX1_place_21 : decode cX1_place 21 = .ok (.return_, 1) := by decide +kernel
theorem dX1_become_0 : decode cX1_become 0 = .ok (.aload_n 0, 1) := by decide +kernel
theorem dX1_become_1 : decode cX1_become 1 = .ok (.aload_n 1, 1) := by decide +kernel
theorem dX1_become_2 : decode cX1_become 2 = .ok (.getfield 9, 3) := by decide +kernel
theorem dX1_become_5 : decode cX1_become 5 = .ok (.aload_n 1, 1) := by decide +kernel
theorem dX1_become_6 : decode cX1_become 6 = .ok (.getfield 15, 3) := by decide +kernel
theorem dX1_become_9 : decode cX1_become 9 = .ok (.aload_n 1, 1) := by decide +kernel
theorem dX1_become_10 : decode cX1_become 10 = .ok (.getfield 18, 3) := by decide +kernel
theorem dX1_become_13 : decode cX1_become 13 = .ok (.aload_n 1, 1) := by decide +kernel
theorem dX1_become_14 : decode cX1_become 14 = .ok (.getfield 21, 3) := by decide +kernel
theorem dX1_become_17 : decode cX1_become 17 = .ok (.invokevirtual 24, 3) := by decide +kernel
theorem dX1_become_20 : decode cX1_become 20 = .ok (.aload_n 0, 1) := by decide +kernel
theorem dX1_become_21 : decode cX1_become 21 = .ok (.aload_n 1, 1) := by decide +kernel
theorem dX1_become_22 : decode cX1_become 22 = .ok (.getfield 28, 3) := by decide +kernel
theorem dX1_become_25 : decode cX1_become 25 = .ok (.putfield 28, 3) := by decide +kernel
theorem dX1_become_28 : decode cX1_become 28 = .ok (.aload_n 0, 1) := by decide +kernel
theorem dX1_become_29 : decode cX1_become 29 = .ok (.aload_n 1, 1) := by decide +kernel
theorem dX1_become_30 : decode cX1_become 30 = .ok (.getfield 31, 3) := by decide +kernel
theorem dX1_become_33 : decode cX1_become 33 = .ok (.putfield 31, 3) := by decide +kernel
theorem dX1_become_36 : decode cX1_become 36 = .ok (.aload_n 0, 1) := by decide +kernel
theorem dX1_become_37 : decode cX1_become 37 = .ok (.aload_n 1, 1) := by decide +kernel
theorem dX1_become_38 : decode cX1_become 38 = .ok (.getfield 34, 3) := by decide +kernel
theorem dX1_become_41 : decode cX1_become 41 = .ok (.putfield 34, 3) := by decide +kernel
theorem dX1_become_44 : decode cX1_become 44 = .ok (.aload_n 0, 1) := by decide +kernel
theorem dX1_become_45 : decode cX1_become 45 = .ok (.aload_n 1, 1) := by decide +kernel
theorem dX1_become_46 : decode cX1_become 46 = .ok (.getfield 37, 3) := by decide +kernel
theorem dX1_become_49 : decode cX1_become 49 = .ok (.putfield 37, 3) := by decide +kernel
theorem dX1_become_52 : decode cX1_become 52 = .ok (.aload_n 0, 1) := by decide +kernel
theorem dX1_become_53 : decode cX1_become 53 = .ok (.aload_n 1, 1) := by decide +kernel
theorem dX1_become_54 : decode cX1_become 54 = .ok (.getfield 40, 3) := by decide +kernel
theorem dX1_become_57 : decode cX1_become 57 = .ok (.putfield 40, 3) := by decide +kernel
theorem dX1_become_60 : decode cX1_become 60 = .ok (.aload_n 0, 1) := by decide +kernel
theorem dX1_become_61 : decode cX1_become 61 = .ok (.aload_n 1, 1) := by decide +kernel
theorem dX1_become_62 : decode cX1_become 62 = .ok (.getfield 43, 3) := by decide +kernel
theorem dX1_become_65 : decode cX1_become 65 = .ok (.putfield 43, 3) := by decide +kernel
theorem dX1_become_68 : decode cX1_become 68 = .ok (.return_, 1) := by decide +kernel
theorem dX1_standsOn_0 : decode cX1_standsOn 0 = .ok (.iload_n 1, 1) := by decide +kernel
theorem dX1_standsOn_1 : decode cX1_standsOn 1 = .ok (.bipush 7, 2) := by decide +kernel
theorem dX1_standsOn_3 : decode cX1_standsOn 3 = .ok (.irem, 1) := by decide +kernel
theorem dX1_standsOn_4 : decode cX1_standsOn 4 = .ok (.aload_n 0, 1) := by decide +kernel
theorem dX1_standsOn_5 : decode cX1_standsOn 5 = .ok (.getfield 15, 3) := by decide +kernel
theorem dX1_standsOn_8 : decode cX1_standsOn 8 = .ok (.if_icmp .ne 22, 3) := by decide +kernel
theorem dX1_standsOn_11 : decode cX1_standsOn 11 = .ok (.aload_n 0, 1) := by decide +kernel
theorem dX1_standsOn_12 : decode cX1_standsOn 12 = .ok (.getfield 43, 3) := by decide +kernel
theorem dX1_standsOn_15 : decode cX1_standsOn 15 = .ok (.iload_n 1, 1) := by decide +kernel
theorem dX1_standsOn_16 : decode cX1_standsOn 16 = .ok (.bipush 7, 2) := by decide +kernel
theorem dX1_standsOn_18 : decode cX1_standsOn 18 = .ok (.idiv, 1) := by decide +kernel
theorem dX1_standsOn_19 : decode cX1_standsOn 19 = .ok (.ishr, 1) := by decide +kernel
theorem dX1_standsOn_20 : decode cX1_standsOn 20 = .ok (.iconst 1, 1) := by decide +kernel
theorem dX1_standsOn_21 : decode cX1_standsOn 21 = .ok (.iand, 1) := by decide +kernel
theorem dX1_standsOn_22 : decode cX1_standsOn 22 = .ok (.iconst 1, 1) := by decide +kernel
theorem dX1_standsOn_23 : decode cX1_standsOn 23 = .ok (.if_icmp .ne 7, 3) := by decide +kernel
theorem dX1_standsOn_26 : decode cX1_standsOn 26 = .ok (.iconst 1, 1) := by decide +kernel
theorem dX1_standsOn_27 : decode cX1_standsOn 27 = .ok (.goto 4, 3) := by decide +kernel
theorem dX1_standsOn_30 : decode cX1_standsOn 30 = .ok (.iconst 0, 1) := by decide +kernel
theorem dX1_standsOn_31 : decode cX1_standsOn 31 = .ok (.ireturn, 1) := by decide +kernel
theorem dX1_leaveOut_0 : decode cX1_leaveOut 0 = .ok (.aload_n 0, 1) := by decide +kernel
theorem dX1_leaveOut_1 : decode cX1_leaveOut 1 = .ok (.dup, 1) := by decide +kernel
theorem dX1_leaveOut_2 : decode cX1_leaveOut 2 = .ok (.getfield 43, 3) := by decide +kernel
theorem dX1_leaveOut_5 : decode cX1_leaveOut 5 = .ok (.iconst 1, 1) := by decide +kernel
theorem dX1_leaveOut_6 : decode cX1_leaveOut 6 = .ok (.iload_n 1, 1) := by decide +kernel
theorem dX1_leaveOut_7 : decode cX1_leaveOut 7 = .ok (.bipush 7, 2) := by decide +kernel
theorem dX1_leaveOut_9 : decode cX1_leaveOut 9 = .ok (.idiv, 1) := by decide +kernel
theorem dX1_leaveOut_10 : decode cX1_leaveOut 10 = .ok (.ishl, 1) := by decide +kernel
theorem dX1_leaveOut_11 : decode cX1_leaveOut 11 = .ok (.iconst (-1), 1) := by decide +kernel
theorem dX1_leaveOut_12 : decode cX1_leaveOut 12 = .ok (.ixor, 1) := by decide +kernel
theorem dX1_leaveOut_13 : decode cX1_leaveOut 13 = .ok (.iand, 1) := by decide +kernel
theorem dX1_leaveOut_14 : decode cX1_leaveOut 14 = .ok (.putfield 43, 3) := by decide +kernel
theorem dX1_leaveOut_17 : decode cX1_leaveOut 17 = .ok (.return_, 1) := by decide +kernel
theorem dX1_daysStanding_0 : decode cX1_daysStanding 0 = .ok (.aload_n 0, 1) := by decide +kernel
theorem dX1_daysStanding_1 : decode cX1_daysStanding 1 = .ok (.getfield 43, 3) := by decide +kernel
theorem dX1_daysStanding_4 : decode cX1_daysStanding 4 = .ok (.invokestatic 46, 3) := by decide +kernel
theorem dX1_daysStanding_7 : decode cX1_daysStanding 7 = .ok (.ireturn, 1) := by decide +kernel
theorem dX1_rentsInAll_0 : decode cX1_rentsInAll 0 = .ok (.aload_n 0, 1) := by decide +kernel
theorem dX1_rentsInAll_1 : decode cX1_rentsInAll 1 = .ok (.getfield 34, 3) := by decide +kernel
theorem dX1_rentsInAll_4 : decode cX1_rentsInAll 4 = .ok (.aload_n 0, 1) := by decide +kernel
theorem dX1_rentsInAll_5 : decode cX1_rentsInAll 5 = .ok (.invokevirtual 52, 3) := by decide +kernel
theorem dX1_rentsInAll_8 : decode cX1_rentsInAll 8 = .ok (.imul, 1) := by decide +kernel
theorem dX1_rentsInAll_9 : decode cX1_rentsInAll 9 = .ok (.ireturn, 1) := by decide +kernel
theorem dX1_shareOfDay_0 : decode cX1_shareOfDay 0 = .ok (.iload_n 1, 1) := by decide +kernel
theorem dX1_shareOfDay_1 : decode cX1_shareOfDay 1 = .ok (.lookupswitch 42 #[(2, 27), (3, 32)], 27) := by decide +kernel
theorem dX1_shareOfDay_28 : decode cX1_shareOfDay 28 = .ok (.aload_n 0, 1) := by decide +kernel
theorem dX1_shareOfDay_29 : decode cX1_shareOfDay 29 = .ok (.getfield 34, 3) := by decide +kernel
theorem dX1_shareOfDay_32 : decode cX1_shareOfDay 32 = .ok (.ireturn, 1) := by decide +kernel
theorem dX1_shareOfDay_33 : decode cX1_shareOfDay 33 = .ok (.aload_n 0, 1) := by decide +kernel
theorem dX1_shareOfDay_34 : decode cX1_shareOfDay 34 = .ok (.getfield 21, 3) := by decide +kernel
theorem dX1_shareOfDay_37 : decode cX1_shareOfDay 37 = .ok (.aload_n 0, 1) := by decide +kernel
theorem dX1_shareOfDay_38 : decode cX1_shareOfDay 38 = .ok (.getfield 18, 3) := by decide +kernel
theorem dX1_shareOfDay_41 : decode cX1_shareOfDay 41 = .ok (.isub, 1) := by decide +kernel
theorem dX1_shareOfDay_42 : decode cX1_shareOfDay 42 = .ok (.ireturn, 1) := by decide +kernel
theorem dX1_shareOfDay_43 : decode cX1_shareOfDay 43 = .ok (.iconst 1, 1) := by decide +kernel
theorem dX1_shareOfDay_44 : decode cX1_shareOfDay 44 = .ok (.ireturn, 1) := by decide +kernel
theorem dX1_firstDay_0 : decode cX1_firstDay 0 = .ok (.iconst 0, 1) := by decide +kernel
theorem dX1_firstDay_1 : decode cX1_firstDay 1 = .ok (.istore_n 1, 1) := by decide +kernel
theorem dX1_firstDay_2 : decode cX1_firstDay 2 = .ok (.iload_n 1, 1) := by decide +kernel
theorem dX1_firstDay_3 : decode cX1_firstDay 3 = .ok (.bipush 12, 2) := by decide +kernel
theorem dX1_firstDay_5 : decode cX1_firstDay 5 = .ok (.if_icmp .ge 31, 3) := by decide +kernel
theorem dX1_firstDay_8 : decode cX1_firstDay 8 = .ok (.aload_n 0, 1) := by decide +kernel
theorem dX1_firstDay_9 : decode cX1_firstDay 9 = .ok (.getfield 43, 3) := by decide +kernel
theorem dX1_firstDay_12 : decode cX1_firstDay 12 = .ok (.iload_n 1, 1) := by decide +kernel
theorem dX1_firstDay_13 : decode cX1_firstDay 13 = .ok (.ishr, 1) := by decide +kernel
theorem dX1_firstDay_14 : decode cX1_firstDay 14 = .ok (.iconst 1, 1) := by decide +kernel
theorem dX1_firstDay_15 : decode cX1_firstDay 15 = .ok (.iand, 1) := by decide +kernel
theorem dX1_firstDay_16 : decode cX1_firstDay 16 = .ok (.iconst 1, 1) := by decide +kernel
theorem dX1_firstDay_17 : decode cX1_firstDay 17 = .ok (.if_icmp .ne 13, 3) := by decide +kernel
theorem dX1_firstDay_20 : decode cX1_firstDay 20 = .ok (.bipush 7, 2) := by decide +kernel
theorem dX1_firstDay_22 : decode cX1_firstDay 22 = .ok (.iload_n 1, 1) := by decide +kernel
theorem dX1_firstDay_23 : decode cX1_firstDay 23 = .ok (.imul, 1) := by decide +kernel
theorem dX1_firstDay_24 : decode cX1_firstDay 24 = .ok (.aload_n 0, 1) := by decide +kernel
theorem dX1_firstDay_25 : decode cX1_firstDay 25 = .ok (.getfield 15, 3) := by decide +kernel
theorem dX1_firstDay_28 : decode cX1_firstDay 28 = .ok (.iadd, 1) := by decide +kernel
theorem dX1_firstDay_29 : decode cX1_firstDay 29 = .ok (.ireturn, 1) := by decide +kernel
theorem dX1_firstDay_30 : decode cX1_firstDay 30 = .ok (.iinc 1 1, 3) := by decide +kernel
theorem dX1_firstDay_33 : decode cX1_firstDay 33 = .ok (.goto (-31), 3) := by decide +kernel
theorem dX1_firstDay_36 : decode cX1_firstDay 36 = .ok (.iconst (-1), 1) := by decide +kernel
theorem dX1_firstDay_37 : decode cX1_firstDay 37 = .ok (.ireturn, 1) := by decide +kernel
theorem dX1_clashesWith_0 : decode cX1_clashesWith 0 = .ok (.aload_n 0, 1) := by decide +kernel
theorem dX1_clashesWith_1 : decode cX1_clashesWith 1 = .ok (.getfield 9, 3) := by decide +kernel
theorem dX1_clashesWith_4 : decode cX1_clashesWith 4 = .ok (.aload_n 1, 1) := by decide +kernel
theorem dX1_clashesWith_5 : decode cX1_clashesWith 5 = .ok (.getfield 9, 3) := by decide +kernel
theorem dX1_clashesWith_8 : decode cX1_clashesWith 8 = .ok (.if_icmp .ne 33, 3) := by decide +kernel
theorem dX1_clashesWith_11 : decode cX1_clashesWith 11 = .ok (.aload_n 0, 1) := by decide +kernel
theorem dX1_clashesWith_12 : decode cX1_clashesWith 12 = .ok (.getfield 18, 3) := by decide +kernel
theorem dX1_clashesWith_15 : decode cX1_clashesWith 15 = .ok (.aload_n 1, 1) := by decide +kernel
theorem dX1_clashesWith_16 : decode cX1_clashesWith 16 = .ok (.getfield 21, 3) := by decide +kernel
theorem dX1_clashesWith_19 : decode cX1_clashesWith 19 = .ok (.iload_n 2, 1) := by decide +kernel
theorem dX1_clashesWith_20 : decode cX1_clashesWith 20 = .ok (.iadd, 1) := by decide +kernel
theorem dX1_clashesWith_21 : decode cX1_clashesWith 21 = .ok (.if_icmp .ge 20, 3) := by decide +kernel
theorem dX1_clashesWith_24 : decode cX1_clashesWith 24 = .ok (.aload_n 1, 1) := by decide +kernel
theorem dX1_clashesWith_25 : decode cX1_clashesWith 25 = .ok (.getfield 18, 3) := by decide +kernel
theorem dX1_clashesWith_28 : decode cX1_clashesWith 28 = .ok (.aload_n 0, 1) := by decide +kernel
theorem dX1_clashesWith_29 : decode cX1_clashesWith 29 = .ok (.getfield 21, 3) := by decide +kernel
theorem dX1_clashesWith_32 : decode cX1_clashesWith 32 = .ok (.iload_n 2, 1) := by decide +kernel
theorem dX1_clashesWith_33 : decode cX1_clashesWith 33 = .ok (.iadd, 1) := by decide +kernel
theorem dX1_clashesWith_34 : decode cX1_clashesWith 34 = .ok (.if_icmp .ge 7, 3) := by decide +kernel
theorem dX1_clashesWith_37 : decode cX1_clashesWith 37 = .ok (.iconst 1, 1) := by decide +kernel
theorem dX1_clashesWith_38 : decode cX1_clashesWith 38 = .ok (.goto 4, 3) := by decide +kernel
theorem dX1_clashesWith_41 : decode cX1_clashesWith 41 = .ok (.iconst 0, 1) := by decide +kernel
theorem dX1_clashesWith_42 : decode cX1_clashesWith 42 = .ok (.ireturn, 1) := by decide +kernel
theorem dX1_isCleanedBefore_0 : decode cX1_isCleanedBefore 0 = .ok (.aload_n 0, 1) := by decide +kernel
theorem dX1_isCleanedBefore_1 : decode cX1_isCleanedBefore 1 = .ok (.getfield 21, 3) := by decide +kernel
theorem dX1_isCleanedBefore_4 : decode cX1_isCleanedBefore 4 = .ok (.aload_n 1, 1) := by decide +kernel
theorem dX1_isCleanedBefore_5 : decode cX1_isCleanedBefore 5 = .ok (.getfield 21, 3) := by decide +kernel
theorem dX1_isCleanedBefore_8 : decode cX1_isCleanedBefore 8 = .ok (.if_icmp .lt 25, 3) := by decide +kernel
theorem dX1_isCleanedBefore_11 : decode cX1_isCleanedBefore 11 = .ok (.aload_n 0, 1) := by decide +kernel
theorem dX1_isCleanedBefore_12 : decode cX1_isCleanedBefore 12 = .ok (.getfield 21, 3) := by decide +kernel
theorem dX1_isCleanedBefore_15 : decode cX1_isCleanedBefore 15 = .ok (.aload_n 1, 1) := by decide +kernel
theorem dX1_isCleanedBefore_16 : decode cX1_isCleanedBefore 16 = .ok (.getfield 21, 3) := by decide +kernel
theorem dX1_isCleanedBefore_19 : decode cX1_isCleanedBefore 19 = .ok (.if_icmp .ne 18, 3) := by decide +kernel
theorem dX1_isCleanedBefore_22 : decode cX1_isCleanedBefore 22 = .ok (.aload_n 0, 1) := by decide +kernel
theorem dX1_isCleanedBefore_23 : decode cX1_isCleanedBefore 23 = .ok (.getfield 9, 3) := by decide +kernel
theorem dX1_isCleanedBefore_26 : decode cX1_isCleanedBefore 26 = .ok (.aload_n 1, 1) := by decide +kernel
theorem dX1_isCleanedBefore_27 : decode cX1_isCleanedBefore 27 = .ok (.getfield 9, 3) := by decide +kernel
theorem dX1_isCleanedBefore_30 : decode cX1_isCleanedBefore 30 = .ok (.if_icmp .ge 7, 3) := by decide +kernel
theorem dX1_isCleanedBefore_33 : decode cX1_isCleanedBefore 33 = .ok (.iconst 1, 1) := by decide +kernel
theorem dX1_isCleanedBefore_34 : decode cX1_isCleanedBefore 34 = .ok (.goto 4, 3) := by decide +kernel
theorem dX1_isCleanedBefore_37 : decode cX1_isCleanedBefore 37 = .ok (.iconst 0, 1) := by decide +kernel
theorem dX1_isCleanedBefore_38 : decode cX1_isCleanedBefore 38 = .ok (.ireturn, 1) := by decide +kernel
theorem dX2_init_0 : decode cX2_init 0 = .ok (.aload_n 0, 1) := by decide +kernel
theorem dX2_init_1 : decode cX2_init 1 = .ok (.invokespecial 1, 3) := by decide +kernel
theorem dX2_init_4 : decode cX2_init 4 = .ok (.aload_n 0, 1) := by decide +kernel
theorem dX2_init_5 : decode cX2_init 5 = .ok (.bipush 60, 2) := by decide +kernel
theorem dX2_init_7 : decode cX2_init 7 = .ok (.newarray .int, 2) := by decide +kernel
theorem dX2_init_9 : decode cX2_init 9 = .ok (.putfield 9, 3) := by decide +kernel
theorem dX2_init_12 : decode cX2_init 12 = .ok (.aload_n 0, 1) := by decide +kernel
theorem dX2_init_13 : decode cX2_init 13 = .ok (.bipush 6, 2) := by decide +kernel
theorem dX2_init_15 : decode cX2_init 15 = .ok (.newarray .int, 2) := by decide +kernel
theorem dX2_init_17 : decode cX2_init 17 = .ok (.putfield 13, 3) := by decide +kernel
theorem dX2_init_20 : decode cX2_init 20 = .ok (.return_, 1) := by decide +kernel
theorem dX3_init_0 : decode cX3_init 0 = .ok (.aload_n 0, 1) := by decide +kernel
theorem dX3_init_1 : decode cX3_init 1 = .ok (.invokespecial 3, 3) := by decide +kernel
theorem dX3_init_4 : decode cX3_init 4 = .ok (.aload_n 0, 1) := by decide +kernel
theorem dX3_init_5 : decode cX3_init 5 = .ok (.iload_n 1, 1) := by decide +kernel
theorem dX3_init_6 : decode cX3_init 6 = .ok (.ifCond .le 7, 3) := by decide +kernel
theorem dX3_init_9 : decode cX3_init 9 = .ok (.iload_n 1, 1) := by decide +kernel
theorem dX3_init_10 : decode cX3_init 10 = .ok (.goto 4, 3) := by decide +kernel
theorem dX3_init_13 : decode cX3_init 13 = .ok (.iconst 0, 1) := by decide +kernel
theorem dX3_init_14 : decode cX3_init 14 = .ok (.anewarray 9, 3) := by decide +kernel
theorem dX3_init_17 : decode cX3_init 17 = .ok (.putfield 11, 3) := by decide +kernel
theorem dX3_init_20 : decode cX3_init 20 = .ok (.iconst 0, 1) := by decide +kernel
theorem dX3_init_21 : decode cX3_init 21 = .ok (.istore_n 2, 1) := by decide +kernel
theorem dX3_init_22 : decode cX3_init 22 = .ok (.iload_n 2, 1) := by decide +kernel
theorem dX3_init_23 : decode cX3_init 23 = .ok (.aload_n 0, 1) := by decide +kernel
theorem dX3_init_24 : decode cX3_init 24 = .ok (.getfield 11, 3) := by decide +kernel
theorem dX3_init_27 : decode cX3_init 27 = .ok (.arraylength, 1) := by decide +kernel
theorem dX3_init_28 : decode cX3_init 28 = .ok (.if_icmp .ge 22, 3) := by decide +kernel
theorem dX3_init_31 : decode cX3_init 31 = .ok (.aload_n 0, 1) := by decide +kernel
theorem dX3_init_32 : decode cX3_init 32 = .ok (.getfield 11, 3) := by decide +kernel
theorem dX3_init_35 : decode cX3_init 35 = .ok (.iload_n 2, 1) := by decide +kernel
theorem dX3_init_36 : decode cX3_init 36 = .ok (.new 9, 3) := by decide +kernel
theorem dX3_init_39 : decode cX3_init 39 = .ok (.dup, 1) := by decide +kernel
theorem dX3_init_40 : decode cX3_init 40 = .ok (.invokespecial 17, 3) := by decide +kernel
theorem dX3_init_43 : decode cX3_init 43 = .ok (.aastore, 1) := by decide +kernel
theorem dX3_init_44 : decode cX3_init 44 = .ok (.iinc 2 1, 3) := by decide +kernel
theorem dX3_init_47 : decode cX3_init 47 = .ok (.goto (-25), 3) := by decide +kernel
theorem dX3_init_50 : decode cX3_init 50 = .ok (.return_, 1) := by decide +kernel
theorem dX3_isFull_0 : decode cX3_isFull 0 = .ok (.aload_n 0, 1) := by decide +kernel
theorem dX3_isFull_1 : decode cX3_isFull 1 = .ok (.getfield 18, 3) := by decide +kernel
theorem dX3_isFull_4 : decode cX3_isFull 4 = .ok (.aload_n 0, 1) := by decide +kernel
theorem dX3_isFull_5 : decode cX3_isFull 5 = .ok (.getfield 11, 3) := by decide +kernel
theorem dX3_isFull_8 : decode cX3_isFull 8 = .ok (.arraylength, 1) := by decide +kernel
theorem dX3_isFull_9 : decode cX3_isFull 9 = .ok (.if_icmp .lt 7, 3) := by decide +kernel
theorem dX3_isFull_12 : decode cX3_isFull 12 = .ok (.iconst 1, 1) := by decide +kernel
theorem dX3_isFull_13 : decode cX3_isFull 13 = .ok (.goto 4, 3) := by decide +kernel
theorem dX3_isFull_16 : decode cX3_isFull 16 = .ok (.iconst 0, 1) := by decide +kernel
theorem dX3_isFull_17 : decode cX3_isFull 17 = .ok (.ireturn, 1) := by decide +kernel
theorem dX3_add_0 : decode cX3_add 0 = .ok (.aload_n 0, 1) := by decide +kernel
theorem dX3_add_1 : decode cX3_add 1 = .ok (.invokevirtual 22, 3) := by decide +kernel
theorem dX3_add_4 : decode cX3_add 4 = .ok (.ifCond .ne 26, 3) := by decide +kernel
theorem dX3_add_7 : decode cX3_add 7 = .ok (.aload_n 0, 1) := by decide +kernel
theorem dX3_add_8 : decode cX3_add 8 = .ok (.getfield 11, 3) := by decide +kernel
theorem dX3_add_11 : decode cX3_add 11 = .ok (.aload_n 0, 1) := by decide +kernel
theorem dX3_add_12 : decode cX3_add 12 = .ok (.getfield 18, 3) := by decide +kernel
theorem dX3_add_15 : decode cX3_add 15 = .ok (.aaload, 1) := by decide +kernel
theorem dX3_add_16 : decode cX3_add 16 = .ok (.aload_n 1, 1) := by decide +kernel
theorem dX3_add_17 : decode cX3_add 17 = .ok (.invokevirtual 26, 3) := by decide +kernel
theorem dX3_add_20 : decode cX3_add 20 = .ok (.aload_n 0, 1) := by decide +kernel
theorem dX3_add_21 : decode cX3_add 21 = .ok (.dup, 1) := by decide +kernel
theorem dX3_add_22 : decode cX3_add 22 = .ok (.getfield 18, 3) := by decide +kernel
theorem dX3_add_25 : decode cX3_add 25 = .ok (.iconst 1, 1) := by decide +kernel
theorem dX3_add_26 : decode cX3_add 26 = .ok (.iadd, 1) := by decide +kernel
theorem dX3_add_27 : decode cX3_add 27 = .ok (.putfield 18, 3) := by decide +kernel
theorem dX3_add_30 : decode cX3_add 30 = .ok (.return_, 1) := by decide +kernel
theorem dX3_remove_0 : decode cX3_remove 0 = .ok (.iload_n 1, 1) := by decide +kernel
theorem dX3_remove_1 : decode cX3_remove 1 = .ok (.iconst 0, 1) := by decide +kernel
theorem dX3_remove_2 : decode cX3_remove 2 = .ok (.aload_n 0, 1) := by decide +kernel
theorem dX3_remove_3 : decode cX3_remove 3 = .ok (.getfield 18, 3) := by decide +kernel
theorem dX3_remove_6 : decode cX3_remove 6 = .ok (.iconst 1, 1) := by decide +kernel
theorem dX3_remove_7 : decode cX3_remove 7 = .ok (.isub, 1) := by decide +kernel
theorem dX3_remove_8 : decode cX3_remove 8 = .ok (.invokestatic 30, 3) := by decide +kernel
theorem dX3_remove_11 : decode cX3_remove 11 = .ok (.ifCond .ne 4, 3) := by decide +kernel
theorem dX3_remove_14 : decode cX3_remove 14 = .ok (.return_, 1) := by decide +kernel
theorem dX3_remove_15 : decode cX3_remove 15 = .ok (.aload_n 0, 1) := by decide +kernel
theorem dX3_remove_16 : decode cX3_remove 16 = .ok (.getfield 11, 3) := by decide +kernel
theorem dX3_remove_19 : decode cX3_remove 19 = .ok (.iload_n 1, 1) := by decide +kernel
theorem dX3_remove_20 : decode cX3_remove 20 = .ok (.aaload, 1) := by decide +kernel
theorem dX3_remove_21 : decode cX3_remove 21 = .ok (.astore_n 2, 1) := by decide +kernel
theorem dX3_remove_22 : decode cX3_remove 22 = .ok (.iload_n 1, 1) := by decide +kernel
theorem dX3_remove_23 : decode cX3_remove 23 = .ok (.iconst 1, 1) := by decide +kernel
theorem dX3_remove_24 : decode cX3_remove 24 = .ok (.iadd, 1) := by decide +kernel
theorem dX3_remove_25 : decode cX3_remove 25 = .ok (.istore_n 3, 1) := by decide +kernel
theorem dX3_remove_26 : decode cX3_remove 26 = .ok (.iload_n 3, 1) := by decide +kernel
theorem dX3_remove_27 : decode cX3_remove 27 = .ok (.aload_n 0, 1) := by decide +kernel
theorem dX3_remove_28 : decode cX3_remove 28 = .ok (.getfield 18, 3) := by decide +kernel
theorem dX3_remove_31 : decode cX3_remove 31 = .ok (.if_icmp .ge 23, 3) := by decide +kernel
theorem dX3_remove_34 : decode cX3_remove 34 = .ok (.aload_n 0, 1) := by decide +kernel
theorem dX3_remove_35 : decode cX3_remove 35 = .ok (.getfield 11, 3) := by decide +kernel
theorem dX3_remove_38 : decode cX3_remove 38 = .ok (.iload_n 3, 1) := by decide +kernel
theorem dX3_remove_39 : decode cX3_remove 39 = .ok (.iconst 1, 1) := by decide +kernel
theorem dX3_remove_40 : decode cX3_remove 40 = .ok (.isub, 1) := by decide +kernel
theorem dX3_remove_41 : decode cX3_remove 41 = .ok (.aload_n 0, 1) := by decide +kernel
theorem dX3_remove_42 : decode cX3_remove 42 = .ok (.getfield 11, 3) := by decide +kernel
theorem dX3_remove_45 : decode cX3_remove 45 = .ok (.iload_n 3, 1) := by decide +kernel
theorem dX3_remove_46 : decode cX3_remove 46 = .ok (.aaload, 1) := by decide +kernel
theorem dX3_remove_47 : decode cX3_remove 47 = .ok (.aastore, 1) := by decide +kernel
theorem dX3_remove_48 : decode cX3_remove 48 = .ok (.iinc 3 1, 3) := by decide +kernel
theorem dX3_remove_51 : decode cX3_remove 51 = .ok (.goto (-25), 3) := by decide +kernel
theorem dX3_remove_54 : decode cX3_remove 54 = .ok (.aload_n 0, 1) := by decide +kernel
theorem dX3_remove_55 : decode cX3_remove 55 = .ok (.getfield 11, 3) := by decide +kernel
theorem dX3_remove_58 : decode cX3_remove 58 = .ok (.aload_n 0, 1) := by decide +kernel
theorem dX3_remove_59 : decode cX3_remove 59 = .ok (.getfield 18, 3) := by decide +kernel
theorem dX3_remove_62 : decode cX3_remove 62 = .ok (.iconst 1, 1) := by decide +kernel
theorem dX3_remove_63 : decode cX3_remove 63 = .ok (.isub, 1) := by decide +kernel
theorem dX3_remove_64 : decode cX3_remove 64 = .ok (.aload_n 2, 1) := by decide +kernel
theorem dX3_remove_65 : decode cX3_remove 65 = .ok (.aastore, 1) := by decide +kernel
theorem dX3_remove_66 : decode cX3_remove 66 = .ok (.aload_n 0, 1) := by decide +kernel
theorem dX3_remove_67 : decode cX3_remove 67 = .ok (.dup, 1) := by decide +kernel
theorem dX3_remove_68 : decode cX3_remove 68 = .ok (.getfield 18, 3) := by decide +kernel
theorem dX3_remove_71 : decode cX3_remove 71 = .ok (.iconst 1, 1) := by decide +kernel
theorem dX3_remove_72 : decode cX3_remove 72 = .ok (.isub, 1) := by decide +kernel
theorem dX3_remove_73 : decode cX3_remove 73 = .ok (.putfield 18, 3) := by decide +kernel
theorem dX3_remove_76 : decode cX3_remove 76 = .ok (.return_, 1) := by decide +kernel
theorem dX3_become_0 : decode cX3_become 0 = .ok (.aload_n 0, 1) := by decide +kernel
theorem dX3_become_1 : decode cX3_become 1 = .ok (.getfield 11, 3) := by decide +kernel
theorem dX3_become_4 : decode cX3_become 4 = .ok (.arraylength, 1) := by decide +kernel
theorem dX3_become_5 : decode cX3_become 5 = .ok (.aload_n 1, 1) := by decide +kernel
theorem dX3_become_6 : decode cX3_become 6 = .ok (.getfield 18, 3) := by decide +kernel
theorem dX3_become_9 : decode cX3_become 9 = .ok (.invokestatic 34, 3) := by decide +kernel
theorem dX3_become_12 : decode cX3_become 12 = .ok (.istore_n 2, 1) := by decide +kernel
theorem dX3_become_13 : decode cX3_become 13 = .ok (.iconst 0, 1) := by decide +kernel
theorem dX3_become_14 : decode cX3_become 14 = .ok (.istore_n 3, 1) := by decide +kernel
theorem dX3_become_15 : decode cX3_become 15 = .ok (.iload_n 3, 1) := by decide +kernel
theorem dX3_become_16 : decode cX3_become 16 = .ok (.iload_n 2, 1) := by decide +kernel
theorem dX3_become_17 : decode cX3_become 17 = .ok (.if_icmp .ge 24, 3) := by decide +kernel
theorem dX3_become_20 : decode cX3_become 20 = .ok (.aload_n 0, 1) := by decide +kernel
theorem dX3_become_21 : decode cX3_become 21 = .ok (.getfield 11, 3) := by decide +kernel
theorem dX3_become_24 : decode cX3_become 24 = .ok (.iload_n 3, 1) := by decide +kernel
theorem dX3_become_25 : decode cX3_become 25 = .ok (.aaload, 1) := by decide +kernel
theorem dX3_become_26 : decode cX3_become 26 = .ok (.aload_n 1, 1) := by decide +kernel
theorem dX3_become_27 : decode cX3_become 27 = .ok (.getfield 11, 3) := by decide +kernel
theorem dX3_become_30 : decode cX3_become 30 = .ok (.iload_n 3, 1) := by decide +kernel
theorem dX3_become_31 : decode cX3_become 31 = .ok (.aaload, 1) := by decide +kernel
theorem dX3_become_32 : decode cX3_become 32 = .ok (.invokevirtual 26, 3) := by decide +kernel
theorem dX3_become_35 : decode cX3_become 35 = .ok (.iinc 3 1, 3) := by decide +kernel
theorem dX3_become_38 : decode cX3_become 38 = .ok (.goto (-23), 3) := by decide +kernel
theorem dX3_become_41 : decode cX3_become 41 = .ok (.aload_n 0, 1) := by decide +kernel
theorem dX3_become_42 : decode cX3_become 42 = .ok (.iload_n 2, 1) := by decide +kernel
theorem dX3_become_43 : decode cX3_become 43 = .ok (.putfield 18, 3) := by decide +kernel
theorem dX3_become_46 : decode cX3_become 46 = .ok (.return_, 1) := by decide +kernel
theorem dX3_sumFor_0 : decode cX3_sumFor 0 = .ok (.iconst 0, 1) := by decide +kernel
theorem dX3_sumFor_1 : decode cX3_sumFor 1 = .ok (.istore_n 3, 1) := by decide +kernel
theorem dX3_sumFor_2 : decode cX3_sumFor 2 = .ok (.iconst 0, 1) := by decide +kernel
theorem dX3_sumFor_3 : decode cX3_sumFor 3 = .ok (.istore 4, 2) := by decide +kernel
theorem dX3_sumFor_5 : decode cX3_sumFor 5 = .ok (.iload 4, 2) := by decide +kernel
theorem dX3_sumFor_7 : decode cX3_sumFor 7 = .ok (.aload_n 0, 1) := by decide +kernel
theorem dX3_sumFor_8 : decode cX3_sumFor 8 = .ok (.getfield 18, 3) := by decide +kernel
theorem dX3_sumFor_11 : decode cX3_sumFor 11 = .ok (.if_icmp .ge 65, 3) := by decide +kernel
theorem dX3_sumFor_14 : decode cX3_sumFor 14 = .ok (.iload_n 1, 1) := by decide +kernel
theorem dX3_sumFor_15 : decode cX3_sumFor 15 = .ok (.iconst (-1), 1) := by decide +kernel
theorem dX3_sumFor_16 : decode cX3_sumFor 16 = .ok (.if_icmp .eq 17, 3) := by decide +kernel
theorem dX3_sumFor_19 : decode cX3_sumFor 19 = .ok (.aload_n 0, 1) := by decide +kernel
theorem dX3_sumFor_20 : decode cX3_sumFor 20 = .ok (.getfield 11, 3) := by decide +kernel
theorem dX3_sumFor_23 : decode cX3_sumFor 23 = .ok (.iload 4, 2) := by decide +kernel
theorem dX3_sumFor_25 : decode cX3_sumFor 25 = .ok (.aaload, 1) := by decide +kernel
theorem dX3_sumFor_26 : decode cX3_sumFor 26 = .ok (.getfield 40, 3) := by decide +kernel
theorem dX3_sumFor_29 : decode cX3_sumFor 29 = .ok (.iload_n 1, 1) := by decide +kernel
theorem dX3_sumFor_30 : decode cX3_sumFor 30 = .ok (.if_icmp .ne 40, 3) := by decide +kernel
theorem dX3_sumFor_33 : decode cX3_sumFor 33 = .ok (.iload_n 2, 1) := by decide +kernel
theorem dX3_sumFor_34 : decode cX3_sumFor 34 = .ok (.ifCond .ne 7, 3) := by decide +kernel
theorem dX3_sumFor_37 : decode cX3_sumFor 37 = .ok (.iconst 1, 1) := by decide +kernel
theorem dX3_sumFor_38 : decode cX3_sumFor 38 = .ok (.goto 13, 3) := by decide +kernel
theorem dX3_sumFor_41 : decode cX3_sumFor 41 = .ok (.aload_n 0, 1) := by decide +kernel
theorem dX3_sumFor_42 : decode cX3_sumFor 42 = .ok (.getfield 11, 3) := by decide +kernel
theorem dX3_sumFor_45 : decode cX3_sumFor 45 = .ok (.iload 4, 2) := by decide +kernel
theorem dX3_sumFor_47 : decode cX3_sumFor 47 = .ok (.aaload, 1) := by decide +kernel
theorem dX3_sumFor_48 : decode cX3_sumFor 48 = .ok (.invokevirtual 43, 3) := by decide +kernel
theorem dX3_sumFor_51 : decode cX3_sumFor 51 = .ok (.istore 5, 2) := by decide +kernel
theorem dX3_sumFor_53 : decode cX3_sumFor 53 = .ok (.iload_n 3, 1) := by decide +kernel
theorem dX3_sumFor_54 : decode cX3_sumFor 54 = .ok (.aload_n 0, 1) := by decide +kernel
theorem dX3_sumFor_55 : decode cX3_sumFor 55 = .ok (.getfield 11, 3) := by decide +kernel
theorem dX3_sumFor_58 : decode cX3_sumFor 58 = .ok (.iload 4, 2) := by decide +kernel
theorem dX3_sumFor_60 : decode cX3_sumFor 60 = .ok (.aaload, 1) := by decide +kernel
theorem dX3_sumFor_61 : decode cX3_sumFor 61 = .ok (.iload_n 2, 1) := by decide +kernel
theorem dX3_sumFor_62 : decode cX3_sumFor 62 = .ok (.invokevirtual 47, 3) := by decide +kernel
theorem dX3_sumFor_65 : decode cX3_sumFor 65 = .ok (.iload 5, 2) := by decide +kernel
theorem dX3_sumFor_67 : decode cX3_sumFor 67 = .ok (.imul, 1) := by decide +kernel
theorem dX3_sumFor_68 : decode cX3_sumFor 68 = .ok (.iadd, 1) := by decide +kernel
theorem dX3_sumFor_69 : decode cX3_sumFor 69 = .ok (.istore_n 3, 1) := by decide +kernel
theorem dX3_sumFor_70 : decode cX3_sumFor 70 = .ok (.iinc 4 1, 3) := by decide +kernel
theorem dX3_sumFor_73 : decode cX3_sumFor 73 = .ok (.goto (-68), 3) := by decide +kernel
theorem dX3_sumFor_76 : decode cX3_sumFor 76 = .ok (.iload_n 3, 1) := by decide +kernel
theorem dX3_sumFor_77 : decode cX3_sumFor 77 = .ok (.ireturn, 1) := by decide +kernel
theorem dX3_hoursIn_0 : decode cX3_hoursIn 0 = .ok (.iconst 0, 1) := by decide +kernel
theorem dX3_hoursIn_1 : decode cX3_hoursIn 1 = .ok (.istore_n 2, 1) := by decide +kernel
theorem dX3_hoursIn_2 : decode cX3_hoursIn 2 = .ok (.iconst 0, 1) := by decide +kernel
theorem dX3_hoursIn_3 : decode cX3_hoursIn 3 = .ok (.istore_n 3, 1) := by decide +kernel
theorem dX3_hoursIn_4 : decode cX3_hoursIn 4 = .ok (.iload_n 3, 1) := by decide +kernel
theorem dX3_hoursIn_5 : decode cX3_hoursIn 5 = .ok (.aload_n 0, 1) := by decide +kernel
theorem dX3_hoursIn_6 : decode cX3_hoursIn 6 = .ok (.getfield 18, 3) := by decide +kernel
theorem dX3_hoursIn_9 : decode cX3_hoursIn 9 = .ok (.if_icmp .ge 45, 3) := by decide +kernel
theorem dX3_hoursIn_12 : decode cX3_hoursIn 12 = .ok (.aload_n 0, 1) := by decide +kernel
theorem dX3_hoursIn_13 : decode cX3_hoursIn 13 = .ok (.getfield 11, 3) := by decide +kernel
theorem dX3_hoursIn_16 : decode cX3_hoursIn 16 = .ok (.iload_n 3, 1) := by decide +kernel
theorem dX3_hoursIn_17 : decode cX3_hoursIn 17 = .ok (.aaload, 1) := by decide +kernel
theorem dX3_hoursIn_18 : decode cX3_hoursIn 18 = .ok (.getfield 51, 3) := by decide +kernel
theorem dX3_hoursIn_21 : decode cX3_hoursIn 21 = .ok (.iload_n 1, 1) := by decide +kernel
theorem dX3_hoursIn_22 : decode cX3_hoursIn 22 = .ok (.if_icmp .ne 26, 3) := by decide +kernel
theorem dX3_hoursIn_25 : decode cX3_hoursIn 25 = .ok (.iload_n 2, 1) := by decide +kernel
theorem dX3_hoursIn_26 : decode cX3_hoursIn 26 = .ok (.aload_n 0, 1) := by decide +kernel
theorem dX3_hoursIn_27 : decode cX3_hoursIn 27 = .ok (.getfield 11, 3) := by decide +kernel
theorem dX3_hoursIn_30 : decode cX3_hoursIn 30 = .ok (.iload_n 3, 1) := by decide +kernel
theorem dX3_hoursIn_31 : decode cX3_hoursIn 31 = .ok (.aaload, 1) := by decide +kernel
theorem dX3_hoursIn_32 : decode cX3_hoursIn 32 = .ok (.iconst 3, 1) := by decide +kernel
theorem dX3_hoursIn_33 : decode cX3_hoursIn 33 = .ok (.invokevirtual 47, 3) := by decide +kernel
theorem dX3_hoursIn_36 : decode cX3_hoursIn 36 = .ok (.aload_n 0, 1) := by decide +kernel
theorem dX3_hoursIn_37 : decode cX3_hoursIn 37 = .ok (.getfield 11, 3) := by decide +kernel
theorem dX3_hoursIn_40 : decode cX3_hoursIn 40 = .ok (.iload_n 3, 1) := by decide +kernel
theorem dX3_hoursIn_41 : decode cX3_hoursIn 41 = .ok (.aaload, 1) := by decide +kernel
theorem dX3_hoursIn_42 : decode cX3_hoursIn 42 = .ok (.invokevirtual 43, 3) := by decide +kernel
theorem dX3_hoursIn_45 : decode cX3_hoursIn 45 = .ok (.imul, 1) := by decide +kernel
theorem dX3_hoursIn_46 : decode cX3_hoursIn 46 = .ok (.iadd, 1) := by decide +kernel
theorem dX3_hoursIn_47 : decode cX3_hoursIn 47 = .ok (.istore_n 2, 1) := by decide +kernel
theorem dX3_hoursIn_48 : decode cX3_hoursIn 48 = .ok (.iinc 3 1, 3) := by decide +kernel
theorem dX3_hoursIn_51 : decode cX3_hoursIn 51 = .ok (.goto (-47), 3) := by decide +kernel
theorem dX3_hoursIn_54 : decode cX3_hoursIn 54 = .ok (.iload_n 2, 1) := by decide +kernel
theorem dX3_hoursIn_55 : decode cX3_hoursIn 55 = .ok (.ireturn, 1) := by decide +kernel
theorem dX4_init_0 : decode cX4_init 0 = .ok (.aload_n 0, 1) := by decide +kernel
theorem dX4_init_1 : decode cX4_init 1 = .ok (.invokespecial 3, 3) := by decide +kernel
theorem dX4_init_4 : decode cX4_init 4 = .ok (.aload_n 0, 1) := by decide +kernel
theorem dX4_init_5 : decode cX4_init 5 = .ok (.new 9, 3) := by decide +kernel
theorem dX4_init_8 : decode cX4_init 8 = .ok (.dup, 1) := by decide +kernel
theorem dX4_init_9 : decode cX4_init 9 = .ok (.bipush 8, 2) := by decide +kernel
theorem dX4_init_11 : decode cX4_init 11 = .ok (.invokespecial 11, 3) := by decide +kernel
theorem dX4_init_14 : decode cX4_init 14 = .ok (.putfield 14, 3) := by decide +kernel
theorem dX4_init_17 : decode cX4_init 17 = .ok (.aload_n 0, 1) := by decide +kernel
theorem dX4_init_18 : decode cX4_init 18 = .ok (.new 9, 3) := by decide +kernel
theorem dX4_init_21 : decode cX4_init 21 = .ok (.dup, 1) := by decide +kernel
theorem dX4_init_22 : decode cX4_init 22 = .ok (.bipush 12, 2) := by decide +kernel
theorem dX4_init_24 : decode cX4_init 24 = .ok (.invokespecial 11, 3) := by decide +kernel
theorem dX4_init_27 : decode cX4_init 27 = .ok (.putfield 20, 3) := by decide +kernel
theorem dX4_init_30 : decode cX4_init 30 = .ok (.aload_n 0, 1) := by decide +kernel
theorem dX4_init_31 : decode cX4_init 31 = .ok (.iconst 3, 1) := by decide +kernel
theorem dX4_init_32 : decode cX4_init 32 = .ok (.newarray .int, 2) := by decide +kernel
theorem dX4_init_34 : decode cX4_init 34 = .ok (.dup, 1) := by decide +kernel
theorem dX4_init_35 : decode cX4_init 35 = .ok (.iconst 0, 1) := by decide +kernel
theorem dX4_init_36 : decode cX4_init 36 = .ok (.sipush 1000, 3) := by decide +kernel
theorem dX4_init_39 : decode cX4_init 39 = .ok (.iastore, 1) := by decide +kernel
theorem dX4_init_40 : decode cX4_init 40 = .ok (.dup, 1) := by decide +kernel
theorem dX4_init_41 : decode cX4_init 41 = .ok (.iconst 1, 1) := by decide +kernel
theorem dX4_init_42 : decode cX4_init 42 = .ok (.sipush 1500, 3) := by decide +kernel
theorem dX4_init_45 : decode cX4_init 45 = .ok (.iastore, 1) := by decide +kernel
theorem dX4_init_46 : decode cX4_init 46 = .ok (.dup, 1) := by decide +kernel
theorem dX4_init_47 : decode cX4_init 47 = .ok (.iconst 2, 1) := by decide +kernel
theorem dX4_init_48 : decode cX4_init 48 = .ok (.sipush 2500, 3) := by decide +kernel
theorem dX4_init_51 : decode cX4_init 51 = .ok (.iastore, 1) := by decide +kernel
theorem dX4_init_52 : decode cX4_init 52 = .ok (.putfield 23, 3) := by decide +kernel
theorem dX4_init_55 : decode cX4_init 55 = .ok (.aload_n 0, 1) := by decide +kernel
theorem dX4_init_56 : decode cX4_init 56 = .ok (.iconst 5, 1) := by decide +kernel
theorem dX4_init_57 : decode cX4_init 57 = .ok (.newarray .int, 2) := by decide +kernel
theorem dX4_init_59 : decode cX4_init 59 = .ok (.dup, 1) := by decide +kernel
theorem dX4_init_60 : decode cX4_init 60 = .ok (.iconst 0, 1) := by decide +kernel
theorem dX4_init_61 : decode cX4_init 61 = .ok (.iconst 1, 1) := by decide +kernel
theorem dX4_init_62 : decode cX4_init 62 = .ok (.iastore, 1) := by decide +kernel
theorem dX4_init_63 : decode cX4_init 63 = .ok (.dup, 1) := by decide +kernel
theorem dX4_init_64 : decode cX4_init 64 = .ok (.iconst 1, 1) := by decide +kernel
theorem dX4_init_65 : decode cX4_init 65 = .ok (.bipush 20, 2) := by decide +kernel
theorem dX4_init_67 : decode cX4_init 67 = .ok (.iastore, 1) := by decide +kernel
theorem dX4_init_68 : decode cX4_init 68 = .ok (.dup, 1) := by decide +kernel
theorem dX4_init_69 : decode cX4_init 69 = .ok (.iconst 2, 1) := by decide +kernel
theorem dX4_init_70 : decode cX4_init 70 = .ok (.bipush 50, 2) := by decide +kernel
theorem dX4_init_72 : decode cX4_init 72 = .ok (.iastore, 1) := by decide +kernel
theorem dX4_init_73 : decode cX4_init 73 = .ok (.dup, 1) := by decide +kernel
theorem dX4_init_74 : decode cX4_init 74 = .ok (.iconst 3, 1) := by decide +kernel
theorem dX4_init_75 : decode cX4_init 75 = .ok (.iconst 0, 1) := by decide +kernel
theorem dX4_init_76 : decode cX4_init 76 = .ok (.iastore, 1) := by decide +kernel
theorem dX4_init_77 : decode cX4_init 77 = .ok (.dup, 1) := by decide +kernel
theorem dX4_init_78 : decode cX4_init 78 = .ok (.iconst 4, 1) := by decide +kernel
theorem dX4_init_79 : decode cX4_init 79 = .ok (.bipush 11, 2) := by decide +kernel
theorem dX4_init_81 : decode cX4_init 81 = .ok (.iastore, 1) := by decide +kernel
theorem dX4_init_82 : decode cX4_init 82 = .ok (.putfield 27, 3) := by decide +kernel
theorem dX4_init_85 : decode cX4_init 85 = .ok (.return_, 1) := by decide +kernel
theorem dX4_become_0 : decode cX4_become 0 = .ok (.aload_n 0, 1) := by decide +kernel
theorem dX4_become_1 : decode cX4_become 1 = .ok (.getfield 14, 3) := by decide +kernel
theorem dX4_become_4 : decode cX4_become 4 = .ok (.aload_n 1, 1) := by decide +kernel
theorem dX4_become_5 : decode cX4_become 5 = .ok (.getfield 14, 3) := by decide +kernel
theorem dX4_become_8 : decode cX4_become 8 = .ok (.invokevirtual 30, 3) := by decide +kernel
theorem dX4_become_11 : decode cX4_become 11 = .ok (.aload_n 0, 1) := by decide +kernel
theorem dX4_become_12 : decode cX4_become 12 = .ok (.getfield 20, 3) := by decide +kernel
theorem dX4_become_15 : decode cX4_become 15 = .ok (.aload_n 1, 1) := by decide +kernel
theorem dX4_become_16 : decode cX4_become 16 = .ok (.getfield 20, 3) := by decide +kernel
theorem dX4_become_19 : decode cX4_become 19 = .ok (.invokevirtual 30, 3) := by decide +kernel
theorem dX4_become_22 : decode cX4_become 22 = .ok (.aload_n 1, 1) := by decide +kernel
theorem dX4_become_23 : decode cX4_become 23 = .ok (.getfield 23, 3) := by decide +kernel
theorem dX4_become_26 : decode cX4_become 26 = .ok (.iconst 0, 1) := by decide +kernel
theorem dX4_become_27 : decode cX4_become 27 = .ok (.aload_n 0, 1) := by decide +kernel
theorem dX4_become_28 : decode cX4_become 28 = .ok (.getfield 23, 3) := by decide +kernel
theorem dX4_become_31 : decode cX4_become 31 = .ok (.iconst 0, 1) := by decide +kernel
theorem dX4_become_32 : decode cX4_become 32 = .ok (.iconst 3, 1) := by decide +kernel
theorem dX4_become_33 : decode cX4_become 33 = .ok (.invokestatic 34, 3) := by decide +kernel
theorem dX4_become_36 : decode cX4_become 36 = .ok (.aload_n 1, 1) := by decide +kernel
theorem dX4_become_37 : decode cX4_become 37 = .ok (.getfield 27, 3) := by decide +kernel
theorem dX4_become_40 : decode cX4_become 40 = .ok (.iconst 0, 1) := by decide +kernel
theorem dX4_become_41 : decode cX4_become 41 = .ok (.aload_n 0, 1) := by decide +kernel
theorem dX4_become_42 : decode cX4_become 42 = .ok (.getfield 27, 3) := by decide +kernel
theorem dX4_become_45 : decode cX4_become 45 = .ok (.iconst 0, 1) := by decide +kernel
theorem dX4_become_46 : decode cX4_become 46 = .ok (.iconst 5, 1) := by decide +kernel
theorem dX4_become_47 : decode cX4_become 47 = .ok (.invokestatic 34, 3) := by decide +kernel
theorem dX4_become_50 : decode cX4_become 50 = .ok (.aload_n 0, 1) := by decide +kernel
theorem dX4_become_51 : decode cX4_become 51 = .ok (.aload_n 1, 1) := by decide +kernel
theorem dX4_become_52 : decode cX4_become 52 = .ok (.getfield 40, 3) := by decide +kernel
theorem dX4_become_55 : decode cX4_become 55 = .ok (.putfield 40, 3) := by decide +kernel
theorem dX4_become_58 : decode cX4_become 58 = .ok (.aload_n 0, 1) := by decide +kernel
theorem dX4_become_59 : decode cX4_become 59 = .ok (.aload_n 1, 1) := by decide +kernel
theorem dX4_become_60 : decode cX4_become 60 = .ok (.getfield 44, 3) := by decide +kernel
theorem dX4_become_63 : decode cX4_become 63 = .ok (.putfield 44, 3) := by decide +kernel
theorem dX4_become_66 : decode cX4_become 66 = .ok (.aload_n 0, 1) := by decide +kernel
theorem dX4_become_67 : decode cX4_become 67 = .ok (.aload_n 1, 1) := by decide +kernel
theorem dX4_become_68 : decode cX4_become 68 = .ok (.getfield 47, 3) := by decide +kernel
theorem dX4_become_71 : decode cX4_become 71 = .ok (.putfield 47, 3) := by decide +kernel
theorem dX4_become_74 : decode cX4_become 74 = .ok (.return_, 1) := by decide +kernel
theorem dX4_sumFor_0 : decode cX4_sumFor 0 = .ok (.aload_n 0, 1) := by decide +kernel
theorem dX4_sumFor_1 : decode cX4_sumFor 1 = .ok (.getfield 14, 3) := by decide +kernel
theorem dX4_sumFor_4 : decode cX4_sumFor 4 = .ok (.iload_n 1, 1) := by decide +kernel
theorem dX4_sumFor_5 : decode cX4_sumFor 5 = .ok (.iload_n 2, 1) := by decide +kernel
theorem dX4_sumFor_6 : decode cX4_sumFor 6 = .ok (.invokevirtual 50, 3) := by decide +kernel
theorem dX4_sumFor_9 : decode cX4_sumFor 9 = .ok (.aload_n 0, 1) := by decide +kernel
theorem dX4_sumFor_10 : decode cX4_sumFor 10 = .ok (.getfield 20, 3) := by decide +kernel
theorem dX4_sumFor_13 : decode cX4_sumFor 13 = .ok (.iload_n 1, 1) := by decide +kernel
theorem dX4_sumFor_14 : decode cX4_sumFor 14 = .ok (.iload_n 2, 1) := by decide +kernel
theorem dX4_sumFor_15 : decode cX4_sumFor 15 = .ok (.invokevirtual 50, 3) := by decide +kernel
theorem dX4_sumFor_18 : decode cX4_sumFor 18 = .ok (.iadd, 1) := by decide +kernel
theorem dX4_sumFor_19 : decode cX4_sumFor 19 = .ok (.ireturn, 1) := by decide +kernel
theorem dX4_giveWayTo_0 : decode cX4_giveWayTo 0 = .ok (.aload_n 0, 1) := by decide +kernel
theorem dX4_giveWayTo_1 : decode cX4_giveWayTo 1 = .ok (.getfield 47, 3) := by decide +kernel
theorem dX4_giveWayTo_4 : decode cX4_giveWayTo 4 = .ok (.istore_n 3, 1) := by decide +kernel
theorem dX4_giveWayTo_5 : decode cX4_giveWayTo 5 = .ok (.iconst 0, 1) := by decide +kernel
theorem dX4_giveWayTo_6 : decode cX4_giveWayTo 6 = .ok (.istore 4, 2) := by decide +kernel
theorem dX4_giveWayTo_8 : decode cX4_giveWayTo 8 = .ok (.iload 4, 2) := by decide +kernel
theorem dX4_giveWayTo_10 : decode cX4_giveWayTo 10 = .ok (.aload_n 0, 1) := by decide +kernel
theorem dX4_giveWayTo_11 : decode cX4_giveWayTo 11 = .ok (.getfield 14, 3) := by decide +kernel
theorem dX4_giveWayTo_14 : decode cX4_giveWayTo 14 = .ok (.getfield 54, 3) := by decide +kernel
theorem dX4_giveWayTo_17 : decode cX4_giveWayTo 17 = .ok (.if_icmp .ge 44, 3) := by decide +kernel
theorem dX4_giveWayTo_20 : decode cX4_giveWayTo 20 = .ok (.aload_n 0, 1) := by decide +kernel
theorem dX4_giveWayTo_21 : decode cX4_giveWayTo 21 = .ok (.getfield 14, 3) := by decide +kernel
theorem dX4_giveWayTo_24 : decode cX4_giveWayTo 24 = .ok (.getfield 57, 3) := by decide +kernel
theorem dX4_giveWayTo_27 : decode cX4_giveWayTo 27 = .ok (.iload 4, 2) := by decide +kernel
theorem dX4_giveWayTo_29 : decode cX4_giveWayTo 29 = .ok (.aaload, 1) := by decide +kernel
theorem dX4_giveWayTo_30 : decode cX4_giveWayTo 30 = .ok (.astore 5, 2) := by decide +kernel
theorem dX4_giveWayTo_32 : decode cX4_giveWayTo 32 = .ok (.aload_n 0, 1) := by decide +kernel
theorem dX4_giveWayTo_33 : decode cX4_giveWayTo 33 = .ok (.aload 5, 2) := by decide +kernel
theorem dX4_giveWayTo_35 : decode cX4_giveWayTo 35 = .ok (.aload_n 1, 1) := by decide +kernel
theorem dX4_giveWayTo_36 : decode cX4_giveWayTo 36 = .ok (.iload_n 2, 1) := by decide +kernel
theorem dX4_giveWayTo_37 : decode cX4_giveWayTo 37 = .ok (.invokevirtual 61, 3) := by decide +kernel
theorem dX4_giveWayTo_40 : decode cX4_giveWayTo 40 = .ok (.ifCond .eq 15, 3) := by decide +kernel
theorem dX4_giveWayTo_43 : decode cX4_giveWayTo 43 = .ok (.aload_n 0, 1) := by decide +kernel
theorem dX4_giveWayTo_44 : decode cX4_giveWayTo 44 = .ok (.aload 5, 2) := by decide +kernel
theorem dX4_giveWayTo_46 : decode cX4_giveWayTo 46 = .ok (.invokevirtual 65, 3) := by decide +kernel
theorem dX4_giveWayTo_49 : decode cX4_giveWayTo 49 = .ok (.aload 5, 2) := by decide +kernel
theorem dX4_giveWayTo_51 : decode cX4_giveWayTo 51 = .ok (.iload_n 2, 1) := by decide +kernel
theorem dX4_giveWayTo_52 : decode cX4_giveWayTo 52 = .ok (.invokevirtual 69, 3) := by decide +kernel
theorem dX4_giveWayTo_55 : decode cX4_giveWayTo 55 = .ok (.iinc 4 1, 3) := by decide +kernel
theorem dX4_giveWayTo_58 : decode cX4_giveWayTo 58 = .ok (.goto (-50), 3) := by decide +kernel
theorem dX4_giveWayTo_61 : decode cX4_giveWayTo 61 = .ok (.aload_n 0, 1) := by decide +kernel
theorem dX4_giveWayTo_62 : decode cX4_giveWayTo 62 = .ok (.getfield 20, 3) := by decide +kernel
theorem dX4_giveWayTo_65 : decode cX4_giveWayTo 65 = .ok (.getfield 54, 3) := by decide +kernel
theorem dX4_giveWayTo_68 : decode cX4_giveWayTo 68 = .ok (.iconst 1, 1) := by decide +kernel
theorem dX4_giveWayTo_69 : decode cX4_giveWayTo 69 = .ok (.isub, 1) := by decide +kernel
theorem dX4_giveWayTo_70 : decode cX4_giveWayTo 70 = .ok (.istore 4, 2) := by decide +kernel
theorem dX4_giveWayTo_72 : decode cX4_giveWayTo 72 = .ok (.iload 4, 2) := by decide +kernel
theorem dX4_giveWayTo_74 : decode cX4_giveWayTo 74 = .ok (.ifCond .lt 47, 3) := by decide +kernel
theorem dX4_giveWayTo_77 : decode cX4_giveWayTo 77 = .ok (.aload_n 0, 1) := by decide +kernel
theorem dX4_giveWayTo_78 : decode cX4_giveWayTo 78 = .ok (.getfield 20, 3) := by decide +kernel
theorem dX4_giveWayTo_81 : decode cX4_giveWayTo 81 = .ok (.getfield 57, 3) := by decide +kernel
theorem dX4_giveWayTo_84 : decode cX4_giveWayTo 84 = .ok (.iload 4, 2) := by decide +kernel
theorem dX4_giveWayTo_86 : decode cX4_giveWayTo 86 = .ok (.aaload, 1) := by decide +kernel
theorem dX4_giveWayTo_87 : decode cX4_giveWayTo 87 = .ok (.astore 5, 2) := by decide +kernel
theorem dX4_giveWayTo_89 : decode cX4_giveWayTo 89 = .ok (.aload_n 0, 1) := by decide +kernel
theorem dX4_giveWayTo_90 : decode cX4_giveWayTo 90 = .ok (.aload 5, 2) := by decide +kernel
theorem dX4_giveWayTo_92 : decode cX4_giveWayTo 92 = .ok (.aload_n 1, 1) := by decide +kernel
theorem dX4_giveWayTo_93 : decode cX4_giveWayTo 93 = .ok (.iload_n 2, 1) := by decide +kernel
theorem dX4_giveWayTo_94 : decode cX4_giveWayTo 94 = .ok (.invokevirtual 61, 3) := by decide +kernel
theorem dX4_giveWayTo_97 : decode cX4_giveWayTo 97 = .ok (.ifCond .eq 18, 3) := by decide +kernel
theorem dX4_giveWayTo_100 : decode cX4_giveWayTo 100 = .ok (.aload_n 0, 1) := by decide +kernel
theorem dX4_giveWayTo_101 : decode cX4_giveWayTo 101 = .ok (.aload 5, 2) := by decide +kernel
theorem dX4_giveWayTo_103 : decode cX4_giveWayTo 103 = .ok (.invokevirtual 65, 3) := by decide +kernel
theorem dX4_giveWayTo_106 : decode cX4_giveWayTo 106 = .ok (.aload_n 0, 1) := by decide +kernel
theorem dX4_giveWayTo_107 : decode cX4_giveWayTo 107 = .ok (.getfield 20, 3) := by decide +kernel
theorem dX4_giveWayTo_110 : decode cX4_giveWayTo 110 = .ok (.iload 4, 2) := by decide +kernel
theorem dX4_giveWayTo_112 : decode cX4_giveWayTo 112 = .ok (.invokevirtual 74, 3) := by decide +kernel
theorem dX4_giveWayTo_115 : decode cX4_giveWayTo 115 = .ok (.iinc 4 (-1), 3) := by decide +kernel
theorem dX4_giveWayTo_118 : decode cX4_giveWayTo 118 = .ok (.goto (-46), 3) := by decide +kernel
theorem dX4_giveWayTo_121 : decode cX4_giveWayTo 121 = .ok (.aload_n 0, 1) := by decide +kernel
theorem dX4_giveWayTo_122 : decode cX4_giveWayTo 122 = .ok (.getfield 47, 3) := by decide +kernel
theorem dX4_giveWayTo_125 : decode cX4_giveWayTo 125 = .ok (.iload_n 3, 1) := by decide +kernel
theorem dX4_giveWayTo_126 : decode cX4_giveWayTo 126 = .ok (.isub, 1) := by decide +kernel
theorem dX4_giveWayTo_127 : decode cX4_giveWayTo 127 = .ok (.ireturn, 1) := by decide +kernel
theorem dX4_givesWay_0 : decode cX4_givesWay 0 = .ok (.aload_n 1, 1) := by decide +kernel
theorem dX4_givesWay_1 : decode cX4_givesWay 1 = .ok (.iload_n 3, 1) := by decide +kernel
theorem dX4_givesWay_2 : decode cX4_givesWay 2 = .ok (.invokevirtual 77, 3) := by decide +kernel
theorem dX4_givesWay_5 : decode cX4_givesWay 5 = .ok (.ifCond .eq 21, 3) := by decide +kernel
theorem dX4_givesWay_8 : decode cX4_givesWay 8 = .ok (.aload_n 1, 1) := by decide +kernel
theorem dX4_givesWay_9 : decode cX4_givesWay 9 = .ok (.aload_n 2, 1) := by decide +kernel
theorem dX4_givesWay_10 : decode cX4_givesWay 10 = .ok (.aload_n 0, 1) := by decide +kernel
theorem dX4_givesWay_11 : decode cX4_givesWay 11 = .ok (.getfield 27, 3) := by decide +kernel
theorem dX4_givesWay_14 : decode cX4_givesWay 14 = .ok (.iconst 0, 1) := by decide +kernel
theorem dX4_givesWay_15 : decode cX4_givesWay 15 = .ok (.iaload, 1) := by decide +kernel
theorem dX4_givesWay_16 : decode cX4_givesWay 16 = .ok (.invokevirtual 81, 3) := by decide +kernel
theorem dX4_givesWay_19 : decode cX4_givesWay 19 = .ok (.ifCond .eq 7, 3) := by decide +kernel
theorem dX4_givesWay_22 : decode cX4_givesWay 22 = .ok (.iconst 1, 1) := by decide +kernel
theorem dX4_givesWay_23 : decode cX4_givesWay 23 = .ok (.goto 4, 3) := by decide +kernel
theorem dX4_givesWay_26 : decode cX4_givesWay 26 = .ok (.iconst 0, 1) := by decide +kernel
theorem dX4_givesWay_27 : decode cX4_givesWay 27 = .ok (.ireturn, 1) := by decide +kernel
theorem dX4_letGo_0 : decode cX4_letGo 0 = .ok (.aload_n 0, 1) := by decide +kernel
theorem dX4_letGo_1 : decode cX4_letGo 1 = .ok (.dup, 1) := by decide +kernel
theorem dX4_letGo_2 : decode cX4_letGo 2 = .ok (.getfield 44, 3) := by decide +kernel
theorem dX4_letGo_5 : decode cX4_letGo 5 = .ok (.aload_n 1, 1) := by decide +kernel
theorem dX4_letGo_6 : decode cX4_letGo 6 = .ok (.getfield 85, 3) := by decide +kernel
theorem dX4_letGo_9 : decode cX4_letGo 9 = .ok (.iadd, 1) := by decide +kernel
theorem dX4_letGo_10 : decode cX4_letGo 10 = .ok (.putfield 44, 3) := by decide +kernel
theorem dX4_letGo_13 : decode cX4_letGo 13 = .ok (.aload_n 0, 1) := by decide +kernel
theorem dX4_letGo_14 : decode cX4_letGo 14 = .ok (.dup, 1) := by decide +kernel
theorem dX4_letGo_15 : decode cX4_letGo 15 = .ok (.getfield 47, 3) := by decide +kernel
theorem dX4_letGo_18 : decode cX4_letGo 18 = .ok (.iconst 1, 1) := by decide +kernel
theorem dX4_letGo_19 : decode cX4_letGo 19 = .ok (.iadd, 1) := by decide +kernel
theorem dX4_letGo_20 : decode cX4_letGo 20 = .ok (.putfield 47, 3) := by decide +kernel
theorem dX4_letGo_23 : decode cX4_letGo 23 = .ok (.return_, 1) := by decide +kernel
theorem dX5_init_0 : decode cX5_init 0 = .ok (.aload_n 0, 1) := by decide +kernel
theorem dX5_init_1 : decode cX5_init 1 = .ok (.invokespecial 1, 3) := by decide +kernel
theorem dX5_init_4 : decode cX5_init 4 = .ok (.aload_n 0, 1) := by decide +kernel
theorem dX5_init_5 : decode cX5_init 5 = .ok (.new 7, 3) := by decide +kernel
theorem dX5_init_8 : decode cX5_init 8 = .ok (.dup, 1) := by decide +kernel
theorem dX5_init_9 : decode cX5_init 9 = .ok (.invokespecial 9, 3) := by decide +kernel
theorem dX5_init_12 : decode cX5_init 12 = .ok (.putfield 10, 3) := by decide +kernel
theorem dX5_init_15 : decode cX5_init 15 = .ok (.aload_n 0, 1) := by decide +kernel
theorem dX5_init_16 : decode cX5_init 16 = .ok (.new 7, 3) := by decide +kernel
theorem dX5_init_19 : decode cX5_init 19 = .ok (.dup, 1) := by decide +kernel
theorem dX5_init_20 : decode cX5_init 20 = .ok (.invokespecial 9, 3) := by decide +kernel
theorem dX5_init_23 : decode cX5_init 23 = .ok (.putfield 16, 3) := by decide +kernel
theorem dX5_init_26 : decode cX5_init 26 = .ok (.aload_n 0, 1) := by decide +kernel
theorem dX5_init_27 : decode cX5_init 27 = .ok (.bipush 6, 2) := by decide +kernel
theorem dX5_init_29 : decode cX5_init 29 = .ok (.anewarray 7, 3) := by decide +kernel
theorem dX5_init_32 : decode cX5_init 32 = .ok (.putfield 19, 3) := by decide +kernel
theorem dX5_init_35 : decode cX5_init 35 = .ok (.aload_n 0, 1) := by decide +kernel
theorem dX5_init_36 : decode cX5_init 36 = .ok (.new 23, 3) := by decide +kernel
theorem dX5_init_39 : decode cX5_init 39 = .ok (.dup, 1) := by decide +kernel
theorem dX5_init_40 : decode cX5_init 40 = .ok (.invokespecial 25, 3) := by decide +kernel
theorem dX5_init_43 : decode cX5_init 43 = .ok (.putfield 26, 3) := by decide +kernel
theorem dX5_init_46 : decode cX5_init 46 = .ok (.aload_n 0, 1) := by decide +kernel
theorem dX5_init_47 : decode cX5_init 47 = .ok (.new 30, 3) := by decide +kernel
theorem dX5_init_50 : decode cX5_init 50 = .ok (.dup, 1) := by decide +kernel
theorem dX5_init_51 : decode cX5_init 51 = .ok (.invokespecial 32, 3) := by decide +kernel
theorem dX5_init_54 : decode cX5_init 54 = .ok (.putfield 33, 3) := by decide +kernel
theorem dX5_init_57 : decode cX5_init 57 = .ok (.aload_n 0, 1) := by decide +kernel
theorem dX5_init_58 : decode cX5_init 58 = .ok (.new 37, 3) := by decide +kernel
theorem dX5_init_61 : decode cX5_init 61 = .ok (.dup, 1) := by decide +kernel
theorem dX5_init_62 : decode cX5_init 62 = .ok (.invokespecial 39, 3) := by decide +kernel
theorem dX5_init_65 : decode cX5_init 65 = .ok (.putfield 40, 3) := by decide +kernel
theorem dX5_init_68 : decode cX5_init 68 = .ok (.iconst 0, 1) := by decide +kernel
theorem dX5_init_69 : decode cX5_init 69 = .ok (.istore_n 1, 1) := by decide +kernel
theorem dX5_init_70 : decode cX5_init 70 = .ok (.iload_n 1, 1) := by decide +kernel
theorem dX5_init_71 : decode cX5_init 71 = .ok (.bipush 6, 2) := by decide +kernel
theorem dX5_init_73 : decode cX5_init 73 = .ok (.if_icmp .ge 22, 3) := by decide +kernel
theorem dX5_init_76 : decode cX5_init 76 = .ok (.aload_n 0, 1) := by decide +kernel
theorem dX5_init_77 : decode cX5_init 77 = .ok (.getfield 19, 3) := by decide +kernel
theorem dX5_init_80 : decode cX5_init 80 = .ok (.iload_n 1, 1) := by decide +kernel
theorem dX5_init_81 : decode cX5_init 81 = .ok (.new 7, 3) := by decide +kernel
theorem dX5_init_84 : decode cX5_init 84 = .ok (.dup, 1) := by decide +kernel
theorem dX5_init_85 : decode cX5_init 85 = .ok (.invokespecial 9, 3) := by decide +kernel
theorem dX5_init_88 : decode cX5_init 88 = .ok (.aastore, 1) := by decide +kernel
theorem dX5_init_89 : decode cX5_init 89 = .ok (.iinc 1 1, 3) := by decide +kernel
theorem dX5_init_92 : decode cX5_init 92 = .ok (.goto (-22), 3) := by decide +kernel
theorem dX5_init_95 : decode cX5_init 95 = .ok (.return_, 1) := by decide +kernel
theorem dX5_regular_0 : decode cX5_regular 0 = .ok (.iload_n 1, 1) := by decide +kernel
theorem dX5_regular_1 : decode cX5_regular 1 = .ok (.invokestatic 44, 3) := by decide +kernel
theorem dX5_regular_4 : decode cX5_regular 4 = .ok (.iload_n 2, 1) := by decide +kernel
theorem dX5_regular_5 : decode cX5_regular 5 = .ok (.iconst 0, 1) := by decide +kernel
theorem dX5_regular_6 : decode cX5_regular 6 = .ok (.bipush 6, 2) := by decide +kernel
theorem dX5_regular_8 : decode cX5_regular 8 = .ok (.invokestatic 48, 3) := by decide +kernel
theorem dX5_regular_11 : decode cX5_regular 11 = .ok (.invokestatic 52, 3) := by decide +kernel
theorem dX5_regular_14 : decode cX5_regular 14 = .ok (.iload_n 3, 1) := by decide +kernel
theorem dX5_regular_15 : decode cX5_regular 15 = .ok (.iload 4, 2) := by decide +kernel
theorem dX5_regular_17 : decode cX5_regular 17 = .ok (.invokestatic 56, 3) := by decide +kernel
theorem dX5_regular_20 : decode cX5_regular 20 = .ok (.iload 5, 2) := by decide +kernel
theorem dX5_regular_22 : decode cX5_regular 22 = .ok (.iconst 1, 1) := by decide +kernel
theorem dX5_regular_23 : decode cX5_regular 23 = .ok (.bipush 9, 2) := by decide +kernel
theorem dX5_regular_25 : decode cX5_regular 25 = .ok (.invokestatic 48, 3) := by decide +kernel
theorem dX5_regular_28 : decode cX5_regular 28 = .ok (.invokestatic 52, 3) := by decide +kernel
theorem dX5_regular_31 : decode cX5_regular 31 = .ok (.iload 6, 2) := by decide +kernel
theorem dX5_regular_33 : decode cX5_regular 33 = .ok (.iconst 0, 1) := by decide +kernel
theorem dX5_regular_34 : decode cX5_regular 34 = .ok (.bipush 19, 2) := by decide +kernel
theorem dX5_regular_36 : decode cX5_regular 36 = .ok (.invokestatic 48, 3) := by decide +kernel
theorem dX5_regular_39 : decode cX5_regular 39 = .ok (.invokestatic 52, 3) := by decide +kernel
theorem dX5_regular_42 : decode cX5_regular 42 = .ok (.aload_n 0, 1) := by decide +kernel
theorem dX5_regular_43 : decode cX5_regular 43 = .ok (.getfield 10, 3) := by decide +kernel
theorem dX5_regular_46 : decode cX5_regular 46 = .ok (.getfield 60, 3) := by decide +kernel
theorem dX5_regular_49 : decode cX5_regular 49 = .ok (.invokevirtual 64, 3) := by decide +kernel
theorem dX5_regular_52 : decode cX5_regular 52 = .ok (.ifCond .eq 13, 3) := by decide +kernel
theorem dX5_regular_55 : decode cX5_regular 55 = .ok (.new 70, 3) := by decide +kernel
theorem dX5_regular_58 : decode cX5_regular 58 = .ok (.dup, 1) := by decide +kernel
theorem dX5_regular_59 : decode cX5_regular 59 = .ok (.ldc 72, 2) := by decide +kernel
theorem dX5_regular_61 : decode cX5_regular 61 = .ok (.invokespecial 74, 3) := by decide +kernel
theorem dX5_regular_64 : decode cX5_regular 64 = .ok (.athrow, 1) := by decide +kernel
theorem dX5_regular_65 : decode cX5_regular 65 = .ok (.aload_n 0, 1) := by decide +kernel
theorem dX5_regular_66 : decode cX5_regular 66 = .ok (.iload_n 1, 1) := by decide +kernel
theorem dX5_regular_67 : decode cX5_regular 67 = .ok (.iload_n 2, 1) := by decide +kernel
theorem dX5_regular_68 : decode cX5_regular 68 = .ok (.iload_n 3, 1) := by decide +kernel
theorem dX5_regular_69 : decode cX5_regular 69 = .ok (.iload 4, 2) := by decide +kernel
theorem dX5_regular_71 : decode cX5_regular 71 = .ok (.iload 5, 2) := by decide +kernel
theorem dX5_regular_73 : decode cX5_regular 73 = .ok (.iload 6, 2) := by decide +kernel
theorem dX5_regular_75 : decode cX5_regular 75 = .ok (.invokevirtual 77, 3) := by decide +kernel
theorem dX5_regular_78 : decode cX5_regular 78 = .ok (.aload_n 0, 1) := by decide +kernel
theorem dX5_regular_79 : decode cX5_regular 79 = .ok (.getfield 40, 3) := by decide +kernel
theorem dX5_regular_82 : decode cX5_regular 82 = .ok (.getfield 81, 3) := by decide +kernel
theorem dX5_regular_85 : decode cX5_regular 85 = .ok (.ifCond .ne 13, 3) := by decide +kernel
theorem dX5_regular_88 : decode cX5_regular 88 = .ok (.new 70, 3) := by decide +kernel
theorem dX5_regular_91 : decode cX5_regular 91 = .ok (.dup, 1) := by decide +kernel
theorem dX5_regular_92 : decode cX5_regular 92 = .ok (.ldc 85, 2) := by decide +kernel
theorem dX5_regular_94 : decode cX5_regular 94 = .ok (.invokespecial 74, 3) := by decide +kernel
theorem dX5_regular_97 : decode cX5_regular 97 = .ok (.athrow, 1) := by decide +kernel
theorem dX5_regular_98 : decode cX5_regular 98 = .ok (.aload_n 0, 1) := by decide +kernel
theorem dX5_regular_99 : decode cX5_regular 99 = .ok (.invokevirtual 87, 3) := by decide +kernel
theorem dX5_regular_102 : decode cX5_regular 102 = .ok (.aload_n 0, 1) := by decide +kernel
theorem dX5_regular_103 : decode cX5_regular 103 = .ok (.invokevirtual 90, 3) := by decide +kernel
theorem dX5_regular_106 : decode cX5_regular 106 = .ok (.aload_n 0, 1) := by decide +kernel
theorem dX5_regular_107 : decode cX5_regular 107 = .ok (.getfield 40, 3) := by decide +kernel
theorem dX5_regular_110 : decode cX5_regular 110 = .ok (.invokevirtual 93, 3) := by decide +kernel
theorem dX5_regular_113 : decode cX5_regular 113 = .ok (.ireturn, 1) := by decide +kernel
theorem dX5_single_0 : decode cX5_single 0 = .ok (.iload_n 1, 1) := by decide +kernel
theorem dX5_single_1 : decode cX5_single 1 = .ok (.invokestatic 44, 3) := by decide +kernel
theorem dX5_single_4 : decode cX5_single 4 = .ok (.iload_n 2, 1) := by decide +kernel
theorem dX5_single_5 : decode cX5_single 5 = .ok (.invokestatic 97, 3) := by decide +kernel
theorem dX5_single_8 : decode cX5_single 8 = .ok (.iload_n 3, 1) := by decide +kernel
theorem dX5_single_9 : decode cX5_single 9 = .ok (.iload 4, 2) := by decide +kernel
theorem dX5_single_11 : decode cX5_single 11 = .ok (.invokestatic 56, 3) := by decide +kernel
theorem dX5_single_14 : decode cX5_single 14 = .ok (.iload 5, 2) := by decide +kernel
theorem dX5_single_16 : decode cX5_single 16 = .ok (.iconst 1, 1) := by decide +kernel
theorem dX5_single_17 : decode cX5_single 17 = .ok (.bipush 9, 2) := by decide +kernel
theorem dX5_single_19 : decode cX5_single 19 = .ok (.invokestatic 48, 3) := by decide +kernel
theorem dX5_single_22 : decode cX5_single 22 = .ok (.invokestatic 52, 3) := by decide +kernel
theorem dX5_single_25 : decode cX5_single 25 = .ok (.iload 6, 2) := by decide +kernel
theorem dX5_single_27 : decode cX5_single 27 = .ok (.iconst 0, 1) := by decide +kernel
theorem dX5_single_28 : decode cX5_single 28 = .ok (.bipush 19, 2) := by decide +kernel
theorem dX5_single_30 : decode cX5_single 30 = .ok (.invokestatic 48, 3) := by decide +kernel
theorem dX5_single_33 : decode cX5_single 33 = .ok (.invokestatic 52, 3) := by decide +kernel
theorem dX5_single_36 : decode cX5_single 36 = .ok (.aload_n 0, 1) := by decide +kernel
theorem dX5_single_37 : decode cX5_single 37 = .ok (.iload_n 1, 1) := by decide +kernel
theorem dX5_single_38 : decode cX5_single 38 = .ok (.iload_n 2, 1) := by decide +kernel
theorem dX5_single_39 : decode cX5_single 39 = .ok (.iload_n 3, 1) := by decide +kernel
theorem dX5_single_40 : decode cX5_single 40 = .ok (.iload 4, 2) := by decide +kernel
theorem dX5_single_42 : decode cX5_single 42 = .ok (.iload 5, 2) := by decide +kernel
theorem dX5_single_44 : decode cX5_single 44 = .ok (.iload 6, 2) := by decide +kernel
theorem dX5_single_46 : decode cX5_single 46 = .ok (.invokevirtual 100, 3) := by decide +kernel
theorem dX5_single_49 : decode cX5_single 49 = .ok (.aload_n 0, 1) := by decide +kernel
theorem dX5_single_50 : decode cX5_single 50 = .ok (.iload_n 2, 1) := by decide +kernel
theorem dX5_single_51 : decode cX5_single 51 = .ok (.invokevirtual 103, 3) := by decide +kernel
theorem dX5_single_54 : decode cX5_single 54 = .ok (.ifCond .eq 13, 3) := by decide +kernel
theorem dX5_single_57 : decode cX5_single 57 = .ok (.new 70, 3) := by decide +kernel
theorem dX5_single_60 : decode cX5_single 60 = .ok (.dup, 1) := by decide +kernel
theorem dX5_single_61 : decode cX5_single 61 = .ok (.ldc 107, 2) := by decide +kernel
theorem dX5_single_63 : decode cX5_single 63 = .ok (.invokespecial 74, 3) := by decide +kernel
theorem dX5_single_66 : decode cX5_single 66 = .ok (.athrow, 1) := by decide +kernel
theorem dX5_single_67 : decode cX5_single 67 = .ok (.aload_n 0, 1) := by decide +kernel
theorem dX5_single_68 : decode cX5_single 68 = .ok (.invokevirtual 87, 3) := by decide +kernel
theorem dX5_single_71 : decode cX5_single 71 = .ok (.aload_n 0, 1) := by decide +kernel
theorem dX5_single_72 : decode cX5_single 72 = .ok (.iload_n 2, 1) := by decide +kernel
theorem dX5_single_73 : decode cX5_single 73 = .ok (.invokevirtual 109, 3) := by decide +kernel
theorem dX5_single_76 : decode cX5_single 76 = .ok (.ireturn, 1) := by decide +kernel
theorem dX5_cancel_0 : decode cX5_cancel 0 = .ok (.iload_n 1, 1) := by decide +kernel
theorem dX5_cancel_1 : decode cX5_cancel 1 = .ok (.ifCond .eq 13, 3) := by decide +kernel
theorem dX5_cancel_4 : decode cX5_cancel 4 = .ok (.aload_n 0, 1) := by decide +kernel
theorem dX5_cancel_5 : decode cX5_cancel 5 = .ok (.getfield 10, 3) := by decide +kernel
theorem dX5_cancel_8 : decode cX5_cancel 8 = .ok (.getfield 60, 3) := by decide +kernel
theorem dX5_cancel_11 : decode cX5_cancel 11 = .ok (.goto 10, 3) := by decide +kernel
theorem dX5_cancel_14 : decode cX5_cancel 14 = .ok (.aload_n 0, 1) := by decide +kernel
theorem dX5_cancel_15 : decode cX5_cancel 15 = .ok (.getfield 10, 3) := by decide +kernel
theorem dX5_cancel_18 : decode cX5_cancel 18 = .ok (.getfield 112, 3) := by decide +kernel
theorem dX5_cancel_21 : decode cX5_cancel 21 = .ok (.astore_n 3, 1) := by decide +kernel
theorem dX5_cancel_22 : decode cX5_cancel 22 = .ok (.aload_n 3, 1) := by decide +kernel
theorem dX5_cancel_23 : decode cX5_cancel 23 = .ok (.iload_n 2, 1) := by decide +kernel
theorem dX5_cancel_24 : decode cX5_cancel 24 = .ok (.invokestatic 115, 3) := by decide +kernel
theorem dX5_cancel_27 : decode cX5_cancel 27 = .ok (.aload_n 0, 1) := by decide +kernel
theorem dX5_cancel_28 : decode cX5_cancel 28 = .ok (.invokevirtual 87, 3) := by decide +kernel
theorem dX5_cancel_31 : decode cX5_cancel 31 = .ok (.aload_n 3, 1) := by decide +kernel
theorem dX5_cancel_32 : decode cX5_cancel 32 = .ok (.getfield 119, 3) := by decide +kernel
theorem dX5_cancel_35 : decode cX5_cancel 35 = .ok (.iload_n 2, 1) := by decide +kernel
theorem dX5_cancel_36 : decode cX5_cancel 36 = .ok (.aaload, 1) := by decide +kernel
theorem dX5_cancel_37 : decode cX5_cancel 37 = .ok (.invokevirtual 123, 3) := by decide +kernel
theorem dX5_cancel_40 : decode cX5_cancel 40 = .ok (.istore 4, 2) := by decide +kernel
theorem dX5_cancel_42 : decode cX5_cancel 42 = .ok (.aload_n 0, 1) := by decide +kernel
theorem dX5_cancel_43 : decode cX5_cancel 43 = .ok (.getfield 10, 3) := by decide +kernel
theorem dX5_cancel_46 : decode cX5_cancel 46 = .ok (.dup, 1) := by decide +kernel
theorem dX5_cancel_47 : decode cX5_cancel 47 = .ok (.getfield 126, 3) := by decide +kernel
theorem dX5_cancel_50 : decode cX5_cancel 50 = .ok (.iload 4, 2) := by decide +kernel
theorem dX5_cancel_52 : decode cX5_cancel 52 = .ok (.iadd, 1) := by decide +kernel
theorem dX5_cancel_53 : decode cX5_cancel 53 = .ok (.putfield 126, 3) := by decide +kernel
theorem dX5_cancel_56 : decode cX5_cancel 56 = .ok (.aload_n 3, 1) := by decide +kernel
theorem dX5_cancel_57 : decode cX5_cancel 57 = .ok (.iload_n 2, 1) := by decide +kernel
theorem dX5_cancel_58 : decode cX5_cancel 58 = .ok (.invokevirtual 129, 3) := by decide +kernel
theorem dX5_cancel_61 : decode cX5_cancel 61 = .ok (.iload 4, 2) := by decide +kernel
theorem dX5_cancel_63 : decode cX5_cancel 63 = .ok (.ireturn, 1) := by decide +kernel
theorem dX5_off_0 : decode cX5_off 0 = .ok (.aload_n 0, 1) := by decide +kernel
theorem dX5_off_1 : decode cX5_off 1 = .ok (.getfield 10, 3) := by decide +kernel
theorem dX5_off_4 : decode cX5_off 4 = .ok (.getfield 60, 3) := by decide +kernel
theorem dX5_off_7 : decode cX5_off 7 = .ok (.iload_n 1, 1) := by decide +kernel
theorem dX5_off_8 : decode cX5_off 8 = .ok (.invokestatic 115, 3) := by decide +kernel
theorem dX5_off_11 : decode cX5_off 11 = .ok (.iload_n 2, 1) := by decide +kernel
theorem dX5_off_12 : decode cX5_off 12 = .ok (.invokestatic 97, 3) := by decide +kernel
theorem dX5_off_15 : decode cX5_off 15 = .ok (.aload_n 0, 1) := by decide +kernel
theorem dX5_off_16 : decode cX5_off 16 = .ok (.getfield 10, 3) := by decide +kernel
theorem dX5_off_19 : decode cX5_off 19 = .ok (.getfield 60, 3) := by decide +kernel
theorem dX5_off_22 : decode cX5_off 22 = .ok (.getfield 119, 3) := by decide +kernel
theorem dX5_off_25 : decode cX5_off 25 = .ok (.iload_n 1, 1) := by decide +kernel
theorem dX5_off_26 : decode cX5_off 26 = .ok (.aaload, 1) := by decide +kernel
theorem dX5_off_27 : decode cX5_off 27 = .ok (.astore_n 3, 1) := by decide +kernel
theorem dX5_off_28 : decode cX5_off 28 = .ok (.aload_n 3, 1) := by decide +kernel
theorem dX5_off_29 : decode cX5_off 29 = .ok (.iload_n 2, 1) := by decide +kernel
theorem dX5_off_30 : decode cX5_off 30 = .ok (.invokevirtual 132, 3) := by decide +kernel
theorem dX5_off_33 : decode cX5_off 33 = .ok (.ifCond .ne 13, 3) := by decide +kernel
theorem dX5_off_36 : decode cX5_off 36 = .ok (.new 70, 3) := by decide +kernel
theorem dX5_off_39 : decode cX5_off 39 = .ok (.dup, 1) := by decide +kernel
theorem dX5_off_40 : decode cX5_off 40 = .ok (.ldc 136, 2) := by decide +kernel
theorem dX5_off_42 : decode cX5_off 42 = .ok (.invokespecial 74, 3) := by decide +kernel
theorem dX5_off_45 : decode cX5_off 45 = .ok (.athrow, 1) := by decide +kernel
theorem dX5_off_46 : decode cX5_off 46 = .ok (.aload_n 0, 1) := by decide +kernel
theorem dX5_off_47 : decode cX5_off 47 = .ok (.invokevirtual 87, 3) := by decide +kernel
theorem dX5_off_50 : decode cX5_off 50 = .ok (.aload_n 3, 1) := by decide +kernel
theorem dX5_off_51 : decode cX5_off 51 = .ok (.iload_n 2, 1) := by decide +kernel
theorem dX5_off_52 : decode cX5_off 52 = .ok (.invokevirtual 138, 3) := by decide +kernel
theorem dX5_off_55 : decode cX5_off 55 = .ok (.aload_n 0, 1) := by decide +kernel
theorem dX5_off_56 : decode cX5_off 56 = .ok (.getfield 10, 3) := by decide +kernel
theorem dX5_off_59 : decode cX5_off 59 = .ok (.dup, 1) := by decide +kernel
theorem dX5_off_60 : decode cX5_off 60 = .ok (.getfield 126, 3) := by decide +kernel
theorem dX5_off_63 : decode cX5_off 63 = .ok (.aload_n 3, 1) := by decide +kernel
theorem dX5_off_64 : decode cX5_off 64 = .ok (.getfield 141, 3) := by decide +kernel
theorem dX5_off_67 : decode cX5_off 67 = .ok (.iadd, 1) := by decide +kernel
theorem dX5_off_68 : decode cX5_off 68 = .ok (.putfield 126, 3) := by decide +kernel
theorem dX5_off_71 : decode cX5_off 71 = .ok (.aload_n 3, 1) := by decide +kernel
theorem dX5_off_72 : decode cX5_off 72 = .ok (.getfield 141, 3) := by decide +kernel
theorem dX5_off_75 : decode cX5_off 75 = .ok (.ireturn, 1) := by decide +kernel
theorem dX5_rate_0 : decode cX5_rate 0 = .ok (.iload_n 1, 1) := by decide +kernel
theorem dX5_rate_1 : decode cX5_rate 1 = .ok (.invokestatic 44, 3) := by decide +kernel
theorem dX5_rate_4 : decode cX5_rate 4 = .ok (.iload_n 2, 1) := by decide +kernel
theorem dX5_rate_5 : decode cX5_rate 5 = .ok (.bipush 100, 2) := by decide +kernel
theorem dX5_rate_7 : decode cX5_rate 7 = .ok (.sipush 5000, 3) := by decide +kernel
theorem dX5_rate_10 : decode cX5_rate 10 = .ok (.invokestatic 48, 3) := by decide +kernel
theorem dX5_rate_13 : decode cX5_rate 13 = .ok (.invokestatic 52, 3) := by decide +kernel
theorem dX5_rate_16 : decode cX5_rate 16 = .ok (.aload_n 0, 1) := by decide +kernel
theorem dX5_rate_17 : decode cX5_rate 17 = .ok (.invokevirtual 87, 3) := by decide +kernel
theorem dX5_rate_20 : decode cX5_rate 20 = .ok (.aload_n 0, 1) := by decide +kernel
theorem dX5_rate_21 : decode cX5_rate 21 = .ok (.getfield 10, 3) := by decide +kernel
theorem dX5_rate_24 : decode cX5_rate 24 = .ok (.getfield 144, 3) := by decide +kernel
theorem dX5_rate_27 : decode cX5_rate 27 = .ok (.iload_n 1, 1) := by decide +kernel
theorem dX5_rate_28 : decode cX5_rate 28 = .ok (.iaload, 1) := by decide +kernel
theorem dX5_rate_29 : decode cX5_rate 29 = .ok (.istore_n 3, 1) := by decide +kernel
theorem dX5_rate_30 : decode cX5_rate 30 = .ok (.aload_n 0, 1) := by decide +kernel
theorem dX5_rate_31 : decode cX5_rate 31 = .ok (.getfield 10, 3) := by decide +kernel
theorem dX5_rate_34 : decode cX5_rate 34 = .ok (.getfield 144, 3) := by decide +kernel
theorem dX5_rate_37 : decode cX5_rate 37 = .ok (.iload_n 1, 1) := by decide +kernel
theorem dX5_rate_38 : decode cX5_rate 38 = .ok (.iload_n 2, 1) := by decide +kernel
theorem dX5_rate_39 : decode cX5_rate 39 = .ok (.iastore, 1) := by decide +kernel
theorem dX5_rate_40 : decode cX5_rate 40 = .ok (.iload_n 3, 1) := by decide +kernel
theorem dX5_rate_41 : decode cX5_rate 41 = .ok (.ireturn, 1) := by decide +kernel
theorem dX5_set_0 : decode cX5_set 0 = .ok (.iload_n 1, 1) := by decide +kernel
theorem dX5_set_1 : decode cX5_set 1 = .ok (.iconst 0, 1) := by decide +kernel
theorem dX5_set_2 : decode cX5_set 2 = .ok (.iconst 4, 1) := by decide +kernel
theorem dX5_set_3 : decode cX5_set 3 = .ok (.invokestatic 48, 3) := by decide +kernel
theorem dX5_set_6 : decode cX5_set 6 = .ok (.ifCond .ne 13, 3) := by decide +kernel
theorem dX5_set_9 : decode cX5_set 9 = .ok (.new 148, 3) := by decide +kernel
theorem dX5_set_12 : decode cX5_set 12 = .ok (.dup, 1) := by decide +kernel
theorem dX5_set_13 : decode cX5_set 13 = .ok (.ldc 150, 2) := by decide +kernel
theorem dX5_set_15 : decode cX5_set 15 = .ok (.invokespecial 152, 3) := by decide +kernel
theorem dX5_set_18 : decode cX5_set 18 = .ok (.athrow, 1) := by decide +kernel
theorem dX5_set_19 : decode cX5_set 19 = .ok (.iload_n 2, 1) := by decide +kernel
theorem dX5_set_20 : decode cX5_set 20 = .ok (.iconst 0, 1) := by decide +kernel
theorem dX5_set_21 : decode cX5_set 21 = .ok (.getstatic 153, 3) := by decide +kernel
theorem dX5_set_24 : decode cX5_set 24 = .ok (.iload_n 1, 1) := by decide +kernel
theorem dX5_set_25 : decode cX5_set 25 = .ok (.iaload, 1) := by decide +kernel
theorem dX5_set_26 : decode cX5_set 26 = .ok (.invokestatic 48, 3) := by decide +kernel
theorem dX5_set_29 : decode cX5_set 29 = .ok (.invokestatic 52, 3) := by decide +kernel
theorem dX5_set_32 : decode cX5_set 32 = .ok (.aload_n 0, 1) := by decide +kernel
theorem dX5_set_33 : decode cX5_set 33 = .ok (.iload_n 1, 1) := by decide +kernel
theorem dX5_set_34 : decode cX5_set 34 = .ok (.iload_n 2, 1) := by decide +kernel
theorem dX5_set_35 : decode cX5_set 35 = .ok (.invokevirtual 156, 3) := by decide +kernel
theorem dX5_set_38 : decode cX5_set 38 = .ok (.ifCond .ne 13, 3) := by decide +kernel
theorem dX5_set_41 : decode cX5_set 41 = .ok (.new 70, 3) := by decide +kernel
theorem dX5_set_44 : decode cX5_set 44 = .ok (.dup, 1) := by decide +kernel
theorem dX5_set_45 : decode cX5_set 45 = .ok (.ldc 160, 2) := by decide +kernel
theorem dX5_set_47 : decode cX5_set 47 = .ok (.invokespecial 74, 3) := by decide +kernel
theorem dX5_set_50 : decode cX5_set 50 = .ok (.athrow, 1) := by decide +kernel
theorem dX5_set_51 : decode cX5_set 51 = .ok (.aload_n 0, 1) := by decide +kernel
theorem dX5_set_52 : decode cX5_set 52 = .ok (.invokevirtual 87, 3) := by decide +kernel
theorem dX5_set_55 : decode cX5_set 55 = .ok (.aload_n 0, 1) := by decide +kernel
theorem dX5_set_56 : decode cX5_set 56 = .ok (.getfield 10, 3) := by decide +kernel
theorem dX5_set_59 : decode cX5_set 59 = .ok (.getfield 162, 3) := by decide +kernel
theorem dX5_set_62 : decode cX5_set 62 = .ok (.iload_n 1, 1) := by decide +kernel
theorem dX5_set_63 : decode cX5_set 63 = .ok (.iaload, 1) := by decide +kernel
theorem dX5_set_64 : decode cX5_set 64 = .ok (.istore_n 3, 1) := by decide +kernel
theorem dX5_set_65 : decode cX5_set 65 = .ok (.aload_n 0, 1) := by decide +kernel
theorem dX5_set_66 : decode cX5_set 66 = .ok (.getfield 10, 3) := by decide +kernel
theorem dX5_set_69 : decode cX5_set 69 = .ok (.getfield 162, 3) := by decide +kernel
theorem dX5_set_72 : decode cX5_set 72 = .ok (.iload_n 1, 1) := by decide +kernel
theorem dX5_set_73 : decode cX5_set 73 = .ok (.iload_n 2, 1) := by decide +kernel
theorem dX5_set_74 : decode cX5_set 74 = .ok (.iastore, 1) := by decide +kernel
theorem dX5_set_75 : decode cX5_set 75 = .ok (.iload_n 3, 1) := by decide +kernel
theorem dX5_set_76 : decode cX5_set 76 = .ok (.ireturn, 1) := by decide +kernel
theorem dX5_regularOf_0 : decode cX5_regularOf 0 = .ok (.aload_n 0, 1) := by decide +kernel
theorem dX5_regularOf_1 : decode cX5_regularOf 1 = .ok (.getfield 10, 3) := by decide +kernel
theorem dX5_regularOf_4 : decode cX5_regularOf 4 = .ok (.getfield 60, 3) := by decide +kernel
theorem dX5_regularOf_7 : decode cX5_regularOf 7 = .ok (.iload_n 1, 1) := by decide +kernel
theorem dX5_regularOf_8 : decode cX5_regularOf 8 = .ok (.invokestatic 115, 3) := by decide +kernel
theorem dX5_regularOf_11 : decode cX5_regularOf 11 = .ok (.iload_n 2, 1) := by decide +kernel
theorem dX5_regularOf_12 : decode cX5_regularOf 12 = .ok (.iconst 0, 1) := by decide +kernel
theorem dX5_regularOf_13 : decode cX5_regularOf 13 = .ok (.bipush 10, 2) := by decide +kernel
theorem dX5_regularOf_15 : decode cX5_regularOf 15 = .ok (.invokestatic 48, 3) := by decide +kernel
theorem dX5_regularOf_18 : decode cX5_regularOf 18 = .ok (.invokestatic 52, 3) := by decide +kernel
theorem dX5_regularOf_21 : decode cX5_regularOf 21 = .ok (.aload_n 0, 1) := by decide +kernel
theorem dX5_regularOf_22 : decode cX5_regularOf 22 = .ok (.getfield 10, 3) := by decide +kernel
theorem dX5_regularOf_25 : decode cX5_regularOf 25 = .ok (.getfield 60, 3) := by decide +kernel
theorem dX5_regularOf_28 : decode cX5_regularOf 28 = .ok (.getfield 119, 3) := by decide +kernel
theorem dX5_regularOf_31 : decode cX5_regularOf 31 = .ok (.iload_n 1, 1) := by decide +kernel
theorem dX5_regularOf_32 : decode cX5_regularOf 32 = .ok (.aaload, 1) := by decide +kernel
theorem dX5_regularOf_33 : decode cX5_regularOf 33 = .ok (.astore_n 3, 1) := by decide +kernel
theorem dX5_regularOf_34 : decode cX5_regularOf 34 = .ok (.iload_n 2, 1) := by decide +kernel
theorem dX5_regularOf_35 : decode cX5_regularOf 35 = .ok (.tableswitch 78 1 10 #[53, 78, 78, 78, 78, 78, 58, 63, 68, 73], 53) := by decide +kernel
theorem dX5_regularOf_88 : decode cX5_regularOf 88 = .ok (.aload_n 3, 1) := by decide +kernel
theorem dX5_regularOf_89 : decode cX5_regularOf 89 = .ok (.getfield 217, 3) := by decide +kernel
theorem dX5_regularOf_92 : decode cX5_regularOf 92 = .ok (.ireturn, 1) := by decide +kernel
theorem dX5_regularOf_93 : decode cX5_regularOf 93 = .ok (.aload_n 3, 1) := by decide +kernel
theorem dX5_regularOf_94 : decode cX5_regularOf 94 = .ok (.getfield 220, 3) := by decide +kernel
theorem dX5_regularOf_97 : decode cX5_regularOf 97 = .ok (.ireturn, 1) := by decide +kernel
theorem dX5_regularOf_98 : decode cX5_regularOf 98 = .ok (.aload_n 3, 1) := by decide +kernel
theorem dX5_regularOf_99 : decode cX5_regularOf 99 = .ok (.getfield 223, 3) := by decide +kernel
theorem dX5_regularOf_102 : decode cX5_regularOf 102 = .ok (.ireturn, 1) := by decide +kernel
theorem dX5_regularOf_103 : decode cX5_regularOf 103 = .ok (.aload_n 3, 1) := by decide +kernel
theorem dX5_regularOf_104 : decode cX5_regularOf 104 = .ok (.invokevirtual 93, 3) := by decide +kernel
theorem dX5_regularOf_107 : decode cX5_regularOf 107 = .ok (.ireturn, 1) := by decide +kernel
theorem dX5_regularOf_108 : decode cX5_regularOf 108 = .ok (.aload_n 3, 1) := by decide +kernel
theorem dX5_regularOf_109 : decode cX5_regularOf 109 = .ok (.invokevirtual 226, 3) := by decide +kernel
theorem dX5_regularOf_112 : decode cX5_regularOf 112 = .ok (.ireturn, 1) := by decide +kernel
theorem dX5_regularOf_113 : decode cX5_regularOf 113 = .ok (.aload_n 3, 1) := by decide +kernel
theorem dX5_regularOf_114 : decode cX5_regularOf 114 = .ok (.iload_n 2, 1) := by decide +kernel
theorem dX5_regularOf_115 : decode cX5_regularOf 115 = .ok (.invokestatic 229, 3) := by decide +kernel
theorem dX5_regularOf_118 : decode cX5_regularOf 118 = .ok (.ireturn, 1) := by decide +kernel
theorem dX5_singleOf_0 : decode cX5_singleOf 0 = .ok (.aload_n 0, 1) := by decide +kernel
theorem dX5_singleOf_1 : decode cX5_singleOf 1 = .ok (.getfield 10, 3) := by decide +kernel
theorem dX5_singleOf_4 : decode cX5_singleOf 4 = .ok (.getfield 112, 3) := by decide +kernel
theorem dX5_singleOf_7 : decode cX5_singleOf 7 = .ok (.iload_n 1, 1) := by decide +kernel
theorem dX5_singleOf_8 : decode cX5_singleOf 8 = .ok (.invokestatic 115, 3) := by decide +kernel
theorem dX5_singleOf_11 : decode cX5_singleOf 11 = .ok (.iload_n 2, 1) := by decide +kernel
theorem dX5_singleOf_12 : decode cX5_singleOf 12 = .ok (.iconst 0, 1) := by decide +kernel
theorem dX5_singleOf_13 : decode cX5_singleOf 13 = .ok (.bipush 6, 2) := by decide +kernel
theorem dX5_singleOf_15 : decode cX5_singleOf 15 = .ok (.invokestatic 48, 3) := by decide +kernel
theorem dX5_singleOf_18 : decode cX5_singleOf 18 = .ok (.invokestatic 52, 3) := by decide +kernel
theorem dX5_singleOf_21 : decode cX5_singleOf 21 = .ok (.aload_n 0, 1) := by decide +kernel
theorem dX5_singleOf_22 : decode cX5_singleOf 22 = .ok (.getfield 10, 3) := by decide +kernel
theorem dX5_singleOf_25 : decode cX5_singleOf 25 = .ok (.getfield 112, 3) := by decide +kernel
theorem dX5_singleOf_28 : decode cX5_singleOf 28 = .ok (.getfield 119, 3) := by decide +kernel
theorem dX5_singleOf_31 : decode cX5_singleOf 31 = .ok (.iload_n 1, 1) := by decide +kernel
theorem dX5_singleOf_32 : decode cX5_singleOf 32 = .ok (.aaload, 1) := by decide +kernel
theorem dX5_singleOf_33 : decode cX5_singleOf 33 = .ok (.astore_n 3, 1) := by decide +kernel
theorem dX5_singleOf_34 : decode cX5_singleOf 34 = .ok (.iload_n 2, 1) := by decide +kernel
theorem dX5_singleOf_35 : decode cX5_singleOf 35 = .ok (.iconst 1, 1) := by decide +kernel
theorem dX5_singleOf_36 : decode cX5_singleOf 36 = .ok (.if_icmp .ne 10, 3) := by decide +kernel
theorem dX5_singleOf_39 : decode cX5_singleOf 39 = .ok (.aload_n 3, 1) := by decide +kernel
theorem dX5_singleOf_40 : decode cX5_singleOf 40 = .ok (.invokevirtual 226, 3) := by decide +kernel
theorem dX5_singleOf_43 : decode cX5_singleOf 43 = .ok (.goto 8, 3) := by decide +kernel
theorem dX5_singleOf_46 : decode cX5_singleOf 46 = .ok (.aload_n 3, 1) := by decide +kernel
theorem dX5_singleOf_47 : decode cX5_singleOf 47 = .ok (.iload_n 2, 1) := by decide +kernel
theorem dX5_singleOf_48 : decode cX5_singleOf 48 = .ok (.invokestatic 229, 3) := by decide +kernel
theorem dX5_singleOf_51 : decode cX5_singleOf 51 = .ok (.ireturn, 1) := by decide +kernel
theorem dX5_who_0 : decode cX5_who 0 = .ok (.iload_n 1, 1) := by decide +kernel
theorem dX5_who_1 : decode cX5_who 1 = .ok (.invokestatic 44, 3) := by decide +kernel
theorem dX5_who_4 : decode cX5_who 4 = .ok (.iload_n 2, 1) := by decide +kernel
theorem dX5_who_5 : decode cX5_who 5 = .ok (.invokestatic 97, 3) := by decide +kernel
theorem dX5_who_8 : decode cX5_who 8 = .ok (.iload_n 3, 1) := by decide +kernel
theorem dX5_who_9 : decode cX5_who 9 = .ok (.iconst 0, 1) := by decide +kernel
theorem dX5_who_10 : decode cX5_who 10 = .ok (.bipush 23, 2) := by decide +kernel
theorem dX5_who_12 : decode cX5_who 12 = .ok (.invokestatic 48, 3) := by decide +kernel
theorem dX5_who_15 : decode cX5_who 15 = .ok (.invokestatic 52, 3) := by decide +kernel
theorem dX5_who_18 : decode cX5_who 18 = .ok (.aload_n 0, 1) := by decide +kernel
theorem dX5_who_19 : decode cX5_who 19 = .ok (.getfield 33, 3) := by decide +kernel
theorem dX5_who_22 : decode cX5_who 22 = .ok (.aload_n 0, 1) := by decide +kernel
theorem dX5_who_23 : decode cX5_who 23 = .ok (.getfield 10, 3) := by decide +kernel
theorem dX5_who_26 : decode cX5_who 26 = .ok (.iload_n 2, 1) := by decide +kernel
theorem dX5_who_27 : decode cX5_who 27 = .ok (.invokevirtual 233, 3) := by decide +kernel
theorem dX5_who_30 : decode cX5_who 30 = .ok (.aload_n 0, 1) := by decide +kernel
theorem dX5_who_31 : decode cX5_who 31 = .ok (.getfield 33, 3) := by decide +kernel
theorem dX5_who_34 : decode cX5_who 34 = .ok (.iload_n 1, 1) := by decide +kernel
theorem dX5_who_35 : decode cX5_who 35 = .ok (.iload_n 3, 1) := by decide +kernel
theorem dX5_who_36 : decode cX5_who 36 = .ok (.invokevirtual 237, 3) := by decide +kernel
theorem dX5_who_39 : decode cX5_who 39 = .ok (.ireturn, 1) := by decide +kernel
theorem dX5_hallOf_0 : decode cX5_hallOf 0 = .ok (.iload_n 1, 1) := by decide +kernel
theorem dX5_hallOf_1 : decode cX5_hallOf 1 = .ok (.invokestatic 44, 3) := by decide +kernel
theorem dX5_hallOf_4 : decode cX5_hallOf 4 = .ok (.iload_n 2, 1) := by decide +kernel
theorem dX5_hallOf_5 : decode cX5_hallOf 5 = .ok (.invokestatic 97, 3) := by decide +kernel
theorem dX5_hallOf_8 : decode cX5_hallOf 8 = .ok (.iload_n 3, 1) := by decide +kernel
theorem dX5_hallOf_9 : decode cX5_hallOf 9 = .ok (.iconst 0, 1) := by decide +kernel
theorem dX5_hallOf_10 : decode cX5_hallOf 10 = .ok (.iconst 3, 1) := by decide +kernel
theorem dX5_hallOf_11 : decode cX5_hallOf 11 = .ok (.invokestatic 48, 3) := by decide +kernel
theorem dX5_hallOf_14 : decode cX5_hallOf 14 = .ok (.invokestatic 52, 3) := by decide +kernel
theorem dX5_hallOf_17 : decode cX5_hallOf 17 = .ok (.aload_n 0, 1) := by decide +kernel
theorem dX5_hallOf_18 : decode cX5_hallOf 18 = .ok (.getfield 33, 3) := by decide +kernel
theorem dX5_hallOf_21 : decode cX5_hallOf 21 = .ok (.aload_n 0, 1) := by decide +kernel
theorem dX5_hallOf_22 : decode cX5_hallOf 22 = .ok (.getfield 10, 3) := by decide +kernel
theorem dX5_hallOf_25 : decode cX5_hallOf 25 = .ok (.iload_n 2, 1) := by decide +kernel
theorem dX5_hallOf_26 : decode cX5_hallOf 26 = .ok (.invokevirtual 233, 3) := by decide +kernel
theorem dX5_hallOf_29 : decode cX5_hallOf 29 = .ok (.iload_n 3, 1) := by decide +kernel
theorem dX5_hallOf_30 : decode cX5_hallOf 30 = .ok (.tableswitch 58 0 2 #[26, 36, 49], 26) := by decide +kernel
theorem dX5_hallOf_56 : decode cX5_hallOf 56 = .ok (.aload_n 0, 1) := by decide +kernel
theorem dX5_hallOf_57 : decode cX5_hallOf 57 = .ok (.getfield 33, 3) := by decide +kernel
theorem dX5_hallOf_60 : decode cX5_hallOf 60 = .ok (.iload_n 1, 1) := by decide +kernel
theorem dX5_hallOf_61 : decode cX5_hallOf 61 = .ok (.iconst 0, 1) := by decide +kernel
theorem dX5_hallOf_62 : decode cX5_hallOf 62 = .ok (.invokevirtual 241, 3) := by decide +kernel
theorem dX5_hallOf_65 : decode cX5_hallOf 65 = .ok (.ireturn, 1) := by decide +kernel
theorem dX5_hallOf_66 : decode cX5_hallOf 66 = .ok (.bipush 24, 2) := by decide +kernel
theorem dX5_hallOf_68 : decode cX5_hallOf 68 = .ok (.aload_n 0, 1) := by decide +kernel
theorem dX5_hallOf_69 : decode cX5_hallOf 69 = .ok (.getfield 33, 3) := by decide +kernel
theorem dX5_hallOf_72 : decode cX5_hallOf 72 = .ok (.iload_n 1, 1) := by decide +kernel
theorem dX5_hallOf_73 : decode cX5_hallOf 73 = .ok (.iconst 3, 1) := by decide +kernel
theorem dX5_hallOf_74 : decode cX5_hallOf 74 = .ok (.invokevirtual 241, 3) := by decide +kernel
theorem dX5_hallOf_77 : decode cX5_hallOf 77 = .ok (.isub, 1) := by decide +kernel
theorem dX5_hallOf_78 : decode cX5_hallOf 78 = .ok (.ireturn, 1) := by decide +kernel
theorem dX5_hallOf_79 : decode cX5_hallOf 79 = .ok (.aload_n 0, 1) := by decide +kernel
theorem dX5_hallOf_80 : decode cX5_hallOf 80 = .ok (.getfield 33, 3) := by decide +kernel
theorem dX5_hallOf_83 : decode cX5_hallOf 83 = .ok (.iload_n 1, 1) := by decide +kernel
theorem dX5_hallOf_84 : decode cX5_hallOf 84 = .ok (.invokevirtual 244, 3) := by decide +kernel
theorem dX5_hallOf_87 : decode cX5_hallOf 87 = .ok (.ireturn, 1) := by decide +kernel
theorem dX5_hallOf_88 : decode cX5_hallOf 88 = .ok (.aload_n 0, 1) := by decide +kernel
theorem dX5_hallOf_89 : decode cX5_hallOf 89 = .ok (.getfield 33, 3) := by decide +kernel
theorem dX5_hallOf_92 : decode cX5_hallOf 92 = .ok (.iload_n 1, 1) := by decide +kernel
theorem dX5_hallOf_93 : decode cX5_hallOf 93 = .ok (.iconst 2, 1) := by decide +kernel
theorem dX5_hallOf_94 : decode cX5_hallOf 94 = .ok (.invokevirtual 241, 3) := by decide +kernel
theorem dX5_hallOf_97 : decode cX5_hallOf 97 = .ok (.ireturn, 1) := by decide +kernel
theorem dX5_tenant_0 : decode cX5_tenant 0 = .ok (.iload_n 1, 1) := by decide +kernel
theorem dX5_tenant_1 : decode cX5_tenant 1 = .ok (.iconst 0, 1) := by decide +kernel
theorem dX5_tenant_2 : decode cX5_tenant 2 = .ok (.bipush 19, 2) := by decide +kernel
theorem dX5_tenant_4 : decode cX5_tenant 4 = .ok (.invokestatic 48, 3) := by decide +kernel
theorem dX5_tenant_7 : decode cX5_tenant 7 = .ok (.ifCond .ne 13, 3) := by decide +kernel
theorem dX5_tenant_10 : decode cX5_tenant 10 = .ok (.new 148, 3) := by decide +kernel
theorem dX5_tenant_13 : decode cX5_tenant 13 = .ok (.dup, 1) := by decide +kernel
theorem dX5_tenant_14 : decode cX5_tenant 14 = .ok (.ldc 247, 2) := by decide +kernel
theorem dX5_tenant_16 : decode cX5_tenant 16 = .ok (.invokespecial 152, 3) := by decide +kernel
theorem dX5_tenant_19 : decode cX5_tenant 19 = .ok (.athrow, 1) := by decide +kernel
theorem dX5_tenant_20 : decode cX5_tenant 20 = .ok (.iload_n 2, 1) := by decide +kernel
theorem dX5_tenant_21 : decode cX5_tenant 21 = .ok (.iconst 0, 1) := by decide +kernel
theorem dX5_tenant_22 : decode cX5_tenant 22 = .ok (.iconst 2, 1) := by decide +kernel
theorem dX5_tenant_23 : decode cX5_tenant 23 = .ok (.invokestatic 48, 3) := by decide +kernel
theorem dX5_tenant_26 : decode cX5_tenant 26 = .ok (.invokestatic 52, 3) := by decide +kernel
theorem dX5_tenant_29 : decode cX5_tenant 29 = .ok (.iload_n 2, 1) := by decide +kernel
theorem dX5_tenant_30 : decode cX5_tenant 30 = .ok (.lookupswitch 46 #[(0, 26), (1, 36)], 26) := by decide +kernel
theorem dX5_tenant_56 : decode cX5_tenant 56 = .ok (.aload_n 0, 1) := by decide +kernel
theorem dX5_tenant_57 : decode cX5_tenant 57 = .ok (.getfield 10, 3) := by decide +kernel
theorem dX5_tenant_60 : decode cX5_tenant 60 = .ok (.iload_n 1, 1) := by decide +kernel
theorem dX5_tenant_61 : decode cX5_tenant 61 = .ok (.iconst 0, 1) := by decide +kernel
theorem dX5_tenant_62 : decode cX5_tenant 62 = .ok (.invokevirtual 249, 3) := by decide +kernel
theorem dX5_tenant_65 : decode cX5_tenant 65 = .ok (.ireturn, 1) := by decide +kernel
theorem dX5_tenant_66 : decode cX5_tenant 66 = .ok (.aload_n 0, 1) := by decide +kernel
theorem dX5_tenant_67 : decode cX5_tenant 67 = .ok (.getfield 10, 3) := by decide +kernel
theorem dX5_tenant_70 : decode cX5_tenant 70 = .ok (.iload_n 1, 1) := by decide +kernel
theorem dX5_tenant_71 : decode cX5_tenant 71 = .ok (.iconst 1, 1) := by decide +kernel
theorem dX5_tenant_72 : decode cX5_tenant 72 = .ok (.invokevirtual 249, 3) := by decide +kernel
theorem dX5_tenant_75 : decode cX5_tenant 75 = .ok (.ireturn, 1) := by decide +kernel
theorem dX5_tenant_76 : decode cX5_tenant 76 = .ok (.aload_n 0, 1) := by decide +kernel
theorem dX5_tenant_77 : decode cX5_tenant 77 = .ok (.getfield 10, 3) := by decide +kernel
theorem dX5_tenant_80 : decode cX5_tenant 80 = .ok (.iload_n 1, 1) := by decide +kernel
theorem dX5_tenant_81 : decode cX5_tenant 81 = .ok (.iconst 2, 1) := by decide +kernel
theorem dX5_tenant_82 : decode cX5_tenant 82 = .ok (.invokevirtual 249, 3) := by decide +kernel
theorem dX5_tenant_85 : decode cX5_tenant 85 = .ok (.ireturn, 1) := by decide +kernel
theorem dX5_count_0 : decode cX5_count 0 = .ok (.iload_n 1, 1) := by decide +kernel
theorem dX5_count_1 : decode cX5_count 1 = .ok (.iconst 0, 1) := by decide +kernel
theorem dX5_count_2 : decode cX5_count 2 = .ok (.bipush 12, 2) := by decide +kernel
theorem dX5_count_4 : decode cX5_count 4 = .ok (.invokestatic 48, 3) := by decide +kernel
theorem dX5_count_7 : decode cX5_count 7 = .ok (.invokestatic 52, 3) := by decide +kernel
theorem dX5_count_10 : decode cX5_count 10 = .ok (.iload_n 1, 1) := by decide +kernel
theorem dX5_count_11 : decode cX5_count 11 = .ok (.tableswitch 136 0 12 #[65, 76, 87, 97, 107, 115, 123, 136, 136, 136, 136, 136, 131], 65) := by decide +kernel
theorem dX5_count_76 : decode cX5_count 76 = .ok (.aload_n 0, 1) := by decide +kernel
theorem dX5_count_77 : decode cX5_count 77 = .ok (.getfield 10, 3) := by decide +kernel
theorem dX5_count_80 : decode cX5_count 80 = .ok (.getfield 60, 3) := by decide +kernel
theorem dX5_count_83 : decode cX5_count 83 = .ok (.getfield 212, 3) := by decide +kernel
theorem dX5_count_86 : decode cX5_count 86 = .ok (.ireturn, 1) := by decide +kernel
theorem dX5_count_87 : decode cX5_count 87 = .ok (.aload_n 0, 1) := by decide +kernel
theorem dX5_count_88 : decode cX5_count 88 = .ok (.getfield 10, 3) := by decide +kernel
theorem dX5_count_91 : decode cX5_count 91 = .ok (.getfield 112, 3) := by decide +kernel
theorem dX5_count_94 : decode cX5_count 94 = .ok (.getfield 212, 3) := by decide +kernel
theorem dX5_count_97 : decode cX5_count 97 = .ok (.ireturn, 1) := by decide +kernel
theorem dX5_count_98 : decode cX5_count 98 = .ok (.aload_n 0, 1) := by decide +kernel
theorem dX5_count_99 : decode cX5_count 99 = .ok (.getfield 10, 3) := by decide +kernel
theorem dX5_count_102 : decode cX5_count 102 = .ok (.iconst (-1), 1) := by decide +kernel
theorem dX5_count_103 : decode cX5_count 103 = .ok (.iconst 1, 1) := by decide +kernel
theorem dX5_count_104 : decode cX5_count 104 = .ok (.invokevirtual 249, 3) := by decide +kernel
theorem dX5_count_107 : decode cX5_count 107 = .ok (.ireturn, 1) := by decide +kernel
theorem dX5_count_108 : decode cX5_count 108 = .ok (.aload_n 0, 1) := by decide +kernel
theorem dX5_count_109 : decode cX5_count 109 = .ok (.getfield 10, 3) := by decide +kernel
theorem dX5_count_112 : decode cX5_count 112 = .ok (.iconst (-1), 1) := by decide +kernel
theorem dX5_count_113 : decode cX5_count 113 = .ok (.iconst 2, 1) := by decide +kernel
theorem dX5_count_114 : decode cX5_count 114 = .ok (.invokevirtual 249, 3) := by decide +kernel
theorem dX5_count_117 : decode cX5_count 117 = .ok (.ireturn, 1) := by decide +kernel
theorem dX5_count_118 : decode cX5_count 118 = .ok (.aload_n 0, 1) := by decide +kernel
theorem dX5_count_119 : decode cX5_count 119 = .ok (.getfield 10, 3) := by decide +kernel
theorem dX5_count_122 : decode cX5_count 122 = .ok (.getfield 252, 3) := by decide +kernel
theorem dX5_count_125 : decode cX5_count 125 = .ok (.ireturn, 1) := by decide +kernel
theorem dX5_count_126 : decode cX5_count 126 = .ok (.aload_n 0, 1) := by decide +kernel
theorem dX5_count_127 : decode cX5_count 127 = .ok (.getfield 10, 3) := by decide +kernel
theorem dX5_count_130 : decode cX5_count 130 = .ok (.getfield 126, 3) := by decide +kernel
theorem dX5_count_133 : decode cX5_count 133 = .ok (.ireturn, 1) := by decide +kernel
theorem dX5_count_134 : decode cX5_count 134 = .ok (.aload_n 0, 1) := by decide +kernel
theorem dX5_count_135 : decode cX5_count 135 = .ok (.getfield 10, 3) := by decide +kernel
theorem dX5_count_138 : decode cX5_count 138 = .ok (.getfield 255, 3) := by decide +kernel
theorem dX5_count_141 : decode cX5_count 141 = .ok (.ireturn, 1) := by decide +kernel
theorem dX5_count_142 : decode cX5_count 142 = .ok (.aload_n 0, 1) := by decide +kernel
theorem dX5_count_143 : decode cX5_count 143 = .ok (.getfield 199, 3) := by decide +kernel
theorem dX5_count_146 : decode cX5_count 146 = .ok (.ireturn, 1) := by decide +kernel
theorem dX5_count_147 : decode cX5_count 147 = .ok (.aload_n 0, 1) := by decide +kernel
theorem dX5_count_148 : decode cX5_count 148 = .ok (.getfield 10, 3) := by decide +kernel
theorem dX5_count_151 : decode cX5_count 151 = .ok (.getfield 162, 3) := by decide +kernel
theorem dX5_count_154 : decode cX5_count 154 = .ok (.iload_n 1, 1) := by decide +kernel
theorem dX5_count_155 : decode cX5_count 155 = .ok (.bipush 7, 2) := by decide +kernel
theorem dX5_count_157 : decode cX5_count 157 = .ok (.isub, 1) := by decide +kernel
theorem dX5_count_158 : decode cX5_count 158 = .ok (.iaload, 1) := by decide +kernel
theorem dX5_count_159 : decode cX5_count 159 = .ok (.ireturn, 1) := by decide +kernel
theorem dX5_refusal_0 : decode cX5_refusal 0 = .ok (.iload_n 1, 1) := by decide +kernel
theorem dX5_refusal_1 : decode cX5_refusal 1 = .ok (.invokestatic 44, 3) := by decide +kernel
theorem dX5_refusal_4 : decode cX5_refusal 4 = .ok (.iload_n 2, 1) := by decide +kernel
theorem dX5_refusal_5 : decode cX5_refusal 5 = .ok (.invokestatic 97, 3) := by decide +kernel
theorem dX5_refusal_8 : decode cX5_refusal 8 = .ok (.iload_n 3, 1) := by decide +kernel
theorem dX5_refusal_9 : decode cX5_refusal 9 = .ok (.iload 4, 2) := by decide +kernel
theorem dX5_refusal_11 : decode cX5_refusal 11 = .ok (.invokestatic 56, 3) := by decide +kernel
theorem dX5_refusal_14 : decode cX5_refusal 14 = .ok (.iload 5, 2) := by decide +kernel
theorem dX5_refusal_16 : decode cX5_refusal 16 = .ok (.iconst 1, 1) := by decide +kernel
theorem dX5_refusal_17 : decode cX5_refusal 17 = .ok (.bipush 9, 2) := by decide +kernel
theorem dX5_refusal_19 : decode cX5_refusal 19 = .ok (.invokestatic 48, 3) := by decide +kernel
theorem dX5_refusal_22 : decode cX5_refusal 22 = .ok (.invokestatic 52, 3) := by decide +kernel
theorem dX5_refusal_25 : decode cX5_refusal 25 = .ok (.aload_n 0, 1) := by decide +kernel
theorem dX5_refusal_26 : decode cX5_refusal 26 = .ok (.iload_n 1, 1) := by decide +kernel
theorem dX5_refusal_27 : decode cX5_refusal 27 = .ok (.iload_n 2, 1) := by decide +kernel
theorem dX5_refusal_28 : decode cX5_refusal 28 = .ok (.iload_n 3, 1) := by decide +kernel
theorem dX5_refusal_29 : decode cX5_refusal 29 = .ok (.iload 4, 2) := by decide +kernel
theorem dX5_refusal_31 : decode cX5_refusal 31 = .ok (.iload 5, 2) := by decide +kernel
theorem dX5_refusal_33 : decode cX5_refusal 33 = .ok (.iconst 0, 1) := by decide +kernel
theorem dX5_refusal_34 : decode cX5_refusal 34 = .ok (.invokevirtual 100, 3) := by decide +kernel
theorem dX5_refusal_37 : decode cX5_refusal 37 = .ok (.aload_n 0, 1) := by decide +kernel
theorem dX5_refusal_38 : decode cX5_refusal 38 = .ok (.iload_n 2, 1) := by decide +kernel
theorem dX5_refusal_39 : decode cX5_refusal 39 = .ok (.invokevirtual 103, 3) := by decide +kernel
theorem dX5_refusal_42 : decode cX5_refusal 42 = .ok (.ireturn, 1) := by decide +kernel
theorem dX5_price_0 : decode cX5_price 0 = .ok (.iload_n 1, 1) := by decide +kernel
theorem dX5_price_1 : decode cX5_price 1 = .ok (.invokestatic 44, 3) := by decide +kernel
theorem dX5_price_4 : decode cX5_price 4 = .ok (.iload_n 2, 1) := by decide +kernel
theorem dX5_price_5 : decode cX5_price 5 = .ok (.invokestatic 97, 3) := by decide +kernel
theorem dX5_price_8 : decode cX5_price 8 = .ok (.iload_n 3, 1) := by decide +kernel
theorem dX5_price_9 : decode cX5_price 9 = .ok (.iload 4, 2) := by decide +kernel
theorem dX5_price_11 : decode cX5_price 11 = .ok (.invokestatic 56, 3) := by decide +kernel
theorem dX5_price_14 : decode cX5_price 14 = .ok (.aload_n 0, 1) := by decide +kernel
theorem dX5_price_15 : decode cX5_price 15 = .ok (.iload_n 1, 1) := by decide +kernel
theorem dX5_price_16 : decode cX5_price 16 = .ok (.iload_n 2, 1) := by decide +kernel
theorem dX5_price_17 : decode cX5_price 17 = .ok (.bipush 7, 2) := by decide +kernel
theorem dX5_price_19 : decode cX5_price 19 = .ok (.irem, 1) := by decide +kernel
theorem dX5_price_20 : decode cX5_price 20 = .ok (.iload 4, 2) := by decide +kernel
theorem dX5_price_22 : decode cX5_price 22 = .ok (.iload_n 3, 1) := by decide +kernel
theorem dX5_price_23 : decode cX5_price 23 = .ok (.isub, 1) := by decide +kernel
theorem dX5_price_24 : decode cX5_price 24 = .ok (.iconst 0, 1) := by decide +kernel
theorem dX5_price_25 : decode cX5_price 25 = .ok (.invokevirtual 258, 3) := by decide +kernel
theorem dX5_price_28 : decode cX5_price 28 = .ok (.ireturn, 1) := by decide +kernel
theorem dX5_nextFree_0 : decode cX5_nextFree 0 = .ok (.iload_n 1, 1) := by decide +kernel
theorem dX5_nextFree_1 : decode cX5_nextFree 1 = .ok (.invokestatic 44, 3) := by decide +kernel
theorem dX5_nextFree_4 : decode cX5_nextFree 4 = .ok (.iload_n 2, 1) := by decide +kernel
theorem dX5_nextFree_5 : decode cX5_nextFree 5 = .ok (.invokestatic 97, 3) := by decide +kernel
theorem dX5_nextFree_8 : decode cX5_nextFree 8 = .ok (.iload_n 3, 1) := by decide +kernel
theorem dX5_nextFree_9 : decode cX5_nextFree 9 = .ok (.iconst 1, 1) := by decide +kernel
theorem dX5_nextFree_10 : decode cX5_nextFree 10 = .ok (.bipush 24, 2) := by decide +kernel
theorem dX5_nextFree_12 : decode cX5_nextFree 12 = .ok (.invokestatic 48, 3) := by decide +kernel
theorem dX5_nextFree_15 : decode cX5_nextFree 15 = .ok (.invokestatic 52, 3) := by decide +kernel
theorem dX5_nextFree_18 : decode cX5_nextFree 18 = .ok (.aload_n 0, 1) := by decide +kernel
theorem dX5_nextFree_19 : decode cX5_nextFree 19 = .ok (.getfield 10, 3) := by decide +kernel
theorem dX5_nextFree_22 : decode cX5_nextFree 22 = .ok (.getfield 112, 3) := by decide +kernel
theorem dX5_nextFree_25 : decode cX5_nextFree 25 = .ok (.invokevirtual 64, 3) := by decide +kernel
theorem dX5_nextFree_28 : decode cX5_nextFree 28 = .ok (.ifCond .eq 5, 3) := by decide +kernel
theorem dX5_nextFree_31 : decode cX5_nextFree 31 = .ok (.iconst (-1), 1) := by decide +kernel
theorem dX5_nextFree_32 : decode cX5_nextFree 32 = .ok (.ireturn, 1) := by decide +kernel
theorem dX5_nextFree_33 : decode cX5_nextFree 33 = .ok (.aload_n 0, 1) := by decide +kernel
theorem dX5_nextFree_34 : decode cX5_nextFree 34 = .ok (.getfield 40, 3) := by decide +kernel
theorem dX5_nextFree_37 : decode cX5_nextFree 37 = .ok (.iconst 1, 1) := by decide +kernel
theorem dX5_nextFree_38 : decode cX5_nextFree 38 = .ok (.putfield 262, 3) := by decide +kernel
theorem dX5_nextFree_41 : decode cX5_nextFree 41 = .ok (.iload_n 2, 1) := by decide +kernel
theorem dX5_nextFree_42 : decode cX5_nextFree 42 = .ok (.istore 4, 2) := by decide +kernel
theorem dX5_nextFree_44 : decode cX5_nextFree 44 = .ok (.iload 4, 2) := by decide +kernel
theorem dX5_nextFree_46 : decode cX5_nextFree 46 = .ok (.bipush 84, 2) := by decide +kernel
theorem dX5_nextFree_48 : decode cX5_nextFree 48 = .ok (.if_icmp .ge 34, 3) := by decide +kernel
theorem dX5_nextFree_51 : decode cX5_nextFree 51 = .ok (.aload_n 0, 1) := by decide +kernel
theorem dX5_nextFree_52 : decode cX5_nextFree 52 = .ok (.iload_n 1, 1) := by decide +kernel
theorem dX5_nextFree_53 : decode cX5_nextFree 53 = .ok (.iload 4, 2) := by decide +kernel
theorem dX5_nextFree_55 : decode cX5_nextFree 55 = .ok (.iload_n 3, 1) := by decide +kernel
theorem dX5_nextFree_56 : decode cX5_nextFree 56 = .ok (.invokevirtual 265, 3) := by decide +kernel
theorem dX5_nextFree_59 : decode cX5_nextFree 59 = .ok (.istore 5, 2) := by decide +kernel
theorem dX5_nextFree_61 : decode cX5_nextFree 61 = .ok (.iload 5, 2) := by decide +kernel
theorem dX5_nextFree_63 : decode cX5_nextFree 63 = .ok (.iconst (-1), 1) := by decide +kernel
theorem dX5_nextFree_64 : decode cX5_nextFree 64 = .ok (.if_icmp .eq 12, 3) := by decide +kernel
theorem dX5_nextFree_67 : decode cX5_nextFree 67 = .ok (.bipush 24, 2) := by decide +kernel
theorem dX5_nextFree_69 : decode cX5_nextFree 69 = .ok (.iload 4, 2) := by decide +kernel
theorem dX5_nextFree_71 : decode cX5_nextFree 71 = .ok (.imul, 1) := by decide +kernel
theorem dX5_nextFree_72 : decode cX5_nextFree 72 = .ok (.iload 5, 2) := by decide +kernel
theorem dX5_nextFree_74 : decode cX5_nextFree 74 = .ok (.iadd, 1) := by decide +kernel
theorem dX5_nextFree_75 : decode cX5_nextFree 75 = .ok (.ireturn, 1) := by decide +kernel
theorem dX5_nextFree_76 : decode cX5_nextFree 76 = .ok (.iinc 4 1, 3) := by decide +kernel
theorem dX5_nextFree_79 : decode cX5_nextFree 79 = .ok (.goto (-35), 3) := by decide +kernel
theorem dX5_nextFree_82 : decode cX5_nextFree 82 = .ok (.iconst (-1), 1) := by decide +kernel
theorem dX5_nextFree_83 : decode cX5_nextFree 83 = .ok (.ireturn, 1) := by decide +kernel
theorem dX5_best_0 : decode cX5_best 0 = .ok (.iconst (-1), 1) := by decide +kernel
theorem dX5_best_1 : decode cX5_best 1 = .ok (.istore_n 1, 1) := by decide +kernel
theorem dX5_best_2 : decode cX5_best 2 = .ok (.iconst 0, 1) := by decide +kernel
theorem dX5_best_3 : decode cX5_best 3 = .ok (.istore_n 2, 1) := by decide +kernel
theorem dX5_best_4 : decode cX5_best 4 = .ok (.iconst 0, 1) := by decide +kernel
theorem dX5_best_5 : decode cX5_best 5 = .ok (.istore_n 3, 1) := by decide +kernel
theorem dX5_best_6 : decode cX5_best 6 = .ok (.iload_n 3, 1) := by decide +kernel
theorem dX5_best_7 : decode cX5_best 7 = .ok (.bipush 20, 2) := by decide +kernel
theorem dX5_best_9 : decode cX5_best 9 = .ok (.if_icmp .ge 31, 3) := by decide +kernel
theorem dX5_best_12 : decode cX5_best 12 = .ok (.aload_n 0, 1) := by decide +kernel
theorem dX5_best_13 : decode cX5_best 13 = .ok (.getfield 10, 3) := by decide +kernel
theorem dX5_best_16 : decode cX5_best 16 = .ok (.iload_n 3, 1) := by decide +kernel
theorem dX5_best_17 : decode cX5_best 17 = .ok (.iconst 2, 1) := by decide +kernel
theorem dX5_best_18 : decode cX5_best 18 = .ok (.invokevirtual 249, 3) := by decide +kernel
theorem dX5_best_21 : decode cX5_best 21 = .ok (.istore 4, 2) := by decide +kernel
theorem dX5_best_23 : decode cX5_best 23 = .ok (.iload 4, 2) := by decide +kernel
theorem dX5_best_25 : decode cX5_best 25 = .ok (.iload_n 2, 1) := by decide +kernel
theorem dX5_best_26 : decode cX5_best 26 = .ok (.if_icmp .le 8, 3) := by decide +kernel
theorem dX5_best_29 : decode cX5_best 29 = .ok (.iload 4, 2) := by decide +kernel
theorem dX5_best_31 : decode cX5_best 31 = .ok (.istore_n 2, 1) := by decide +kernel
theorem dX5_best_32 : decode cX5_best 32 = .ok (.iload_n 3, 1) := by decide +kernel
theorem dX5_best_33 : decode cX5_best 33 = .ok (.istore_n 1, 1) := by decide +kernel
theorem dX5_best_34 : decode cX5_best 34 = .ok (.iinc 3 1, 3) := by decide +kernel
theorem dX5_best_37 : decode cX5_best 37 = .ok (.goto (-31), 3) := by decide +kernel
theorem dX5_best_40 : decode cX5_best 40 = .ok (.iload_n 1, 1) := by decide +kernel
theorem dX5_best_41 : decode cX5_best 41 = .ok (.ireturn, 1) := by decide +kernel
theorem dX5_fullness_0 : decode cX5_fullness 0 = .ok (.iload_n 1, 1) := by decide +kernel
theorem dX5_fullness_1 : decode cX5_fullness 1 = .ok (.invokestatic 44, 3) := by decide +kernel
theorem dX5_fullness_4 : decode cX5_fullness 4 = .ok (.aload_n 0, 1) := by decide +kernel
theorem dX5_fullness_5 : decode cX5_fullness 5 = .ok (.getfield 10, 3) := by decide +kernel
theorem dX5_fullness_8 : decode cX5_fullness 8 = .ok (.getfield 60, 3) := by decide +kernel
theorem dX5_fullness_11 : decode cX5_fullness 11 = .ok (.iload_n 1, 1) := by decide +kernel
theorem dX5_fullness_12 : decode cX5_fullness 12 = .ok (.invokevirtual 269, 3) := by decide +kernel
theorem dX5_fullness_15 : decode cX5_fullness 15 = .ok (.aload_n 0, 1) := by decide +kernel
theorem dX5_fullness_16 : decode cX5_fullness 16 = .ok (.getfield 10, 3) := by decide +kernel
theorem dX5_fullness_19 : decode cX5_fullness 19 = .ok (.getfield 112, 3) := by decide +kernel
theorem dX5_fullness_22 : decode cX5_fullness 22 = .ok (.iload_n 1, 1) := by decide +kernel
theorem dX5_fullness_23 : decode cX5_fullness 23 = .ok (.invokevirtual 269, 3) := by decide +kernel
theorem dX5_fullness_26 : decode cX5_fullness 26 = .ok (.iadd, 1) := by decide +kernel
theorem dX5_fullness_27 : decode cX5_fullness 27 = .ok (.i2d, 1) := by decide +kernel
theorem dX5_fullness_28 : decode cX5_fullness 28 = .ok (.ldc2_w 272, 3) := by decide +kernel
theorem dX5_fullness_31 : decode cX5_fullness 31 = .ok (.ddiv, 1) := by decide +kernel
theorem dX5_fullness_32 : decode cX5_fullness 32 = .ok (.dreturn, 1) := by decide +kernel
theorem dX5_meanRent_0 : decode cX5_meanRent 0 = .ok (.aload_n 0, 1) := by decide +kernel
theorem dX5_meanRent_1 : decode cX5_meanRent 1 = .ok (.getfield 10, 3) := by decide +kernel
theorem dX5_meanRent_4 : decode cX5_meanRent 4 = .ok (.iconst (-1), 1) := by decide +kernel
theorem dX5_meanRent_5 : decode cX5_meanRent 5 = .ok (.iconst 2, 1) := by decide +kernel
theorem dX5_meanRent_6 : decode cX5_meanRent 6 = .ok (.invokevirtual 249, 3) := by decide +kernel
theorem dX5_meanRent_9 : decode cX5_meanRent 9 = .ok (.i2f, 1) := by decide +kernel
theorem dX5_meanRent_10 : decode cX5_meanRent 10 = .ok (.ldc_w 274, 3) := by decide +kernel
theorem dX5_meanRent_13 : decode cX5_meanRent 13 = .ok (.fdiv, 1) := by decide +kernel
theorem dX5_meanRent_14 : decode cX5_meanRent 14 = .ok (.freturn, 1) := by decide +kernel
theorem dX5_isIn_0 : decode cX5_isIn 0 = .ok (.iload_n 0, 1) := by decide +kernel
theorem dX5_isIn_1 : decode cX5_isIn 1 = .ok (.iload_n 1, 1) := by decide +kernel
theorem dX5_isIn_2 : decode cX5_isIn 2 = .ok (.if_icmp .lt 12, 3) := by decide +kernel
theorem dX5_isIn_5 : decode cX5_isIn 5 = .ok (.iload_n 0, 1) := by decide +kernel
theorem dX5_isIn_6 : decode cX5_isIn 6 = .ok (.iload_n 2, 1) := by decide +kernel
theorem dX5_isIn_7 : decode cX5_isIn 7 = .ok (.if_icmp .gt 7, 3) := by decide +kernel
theorem dX5_isIn_10 : decode cX5_isIn 10 = .ok (.iconst 1, 1) := by decide +kernel
theorem dX5_isIn_11 : decode cX5_isIn 11 = .ok (.goto 4, 3) := by decide +kernel
theorem dX5_isIn_14 : decode cX5_isIn 14 = .ok (.iconst 0, 1) := by decide +kernel
theorem dX5_isIn_15 : decode cX5_isIn 15 = .ok (.ireturn, 1) := by decide +kernel
theorem dX5_need_0 : decode cX5_need 0 = .ok (.iload_n 0, 1) := by decide +kernel
theorem dX5_need_1 : decode cX5_need 1 = .ok (.ifCond .ne 14, 3) := by decide +kernel
theorem dX5_need_4 : decode cX5_need 4 = .ok (.new 329, 3) := by decide +kernel
theorem dX5_need_7 : decode cX5_need 7 = .ok (.dup, 1) := by decide +kernel
theorem dX5_need_8 : decode cX5_need 8 = .ok (.ldc_w 331, 3) := by decide +kernel
theorem dX5_need_11 : decode cX5_need 11 = .ok (.invokespecial 333, 3) := by decide +kernel
theorem dX5_need_14 : decode cX5_need 14 = .ok (.athrow, 1) := by decide +kernel
theorem dX5_need_15 : decode cX5_need 15 = .ok (.return_, 1) := by decide +kernel
theorem dX5_needHall_0 : decode cX5_needHall 0 = .ok (.iload_n 0, 1) := by decide +kernel
theorem dX5_needHall_1 : decode cX5_needHall 1 = .ok (.iconst 0, 1) := by decide +kernel
theorem dX5_needHall_2 : decode cX5_needHall 2 = .ok (.iconst 2, 1) := by decide +kernel
theorem dX5_needHall_3 : decode cX5_needHall 3 = .ok (.invokestatic 48, 3) := by decide +kernel
theorem dX5_needHall_6 : decode cX5_needHall 6 = .ok (.ifCond .ne 14, 3) := by decide +kernel
theorem dX5_needHall_9 : decode cX5_needHall 9 = .ok (.new 148, 3) := by decide +kernel
theorem dX5_needHall_12 : decode cX5_needHall 12 = .ok (.dup, 1) := by decide +kernel
theorem dX5_needHall_13 : decode cX5_needHall 13 = .ok (.ldc_w 334, 3) := by decide +kernel
theorem dX5_needHall_16 : decode cX5_needHall 16 = .ok (.invokespecial 152, 3) := by decide +kernel
theorem dX5_needHall_19 : decode cX5_needHall 19 = .ok (.athrow, 1) := by decide +kernel
theorem dX5_needHall_20 : decode cX5_needHall 20 = .ok (.return_, 1) := by decide +kernel
theorem dX5_needLet_0 : decode cX5_needLet 0 = .ok (.iload_n 1, 1) := by decide +kernel
theorem dX5_needLet_1 : decode cX5_needLet 1 = .ok (.iconst 0, 1) := by decide +kernel
theorem dX5_needLet_2 : decode cX5_needLet 2 = .ok (.aload_n 0, 1) := by decide +kernel
theorem dX5_needLet_3 : decode cX5_needLet 3 = .ok (.getfield 212, 3) := by decide +kernel
theorem dX5_needLet_6 : decode cX5_needLet 6 = .ok (.iconst 1, 1) := by decide +kernel
theorem dX5_needLet_7 : decode cX5_needLet 7 = .ok (.isub, 1) := by decide +kernel
theorem dX5_needLet_8 : decode cX5_needLet 8 = .ok (.invokestatic 48, 3) := by decide +kernel
theorem dX5_needLet_11 : decode cX5_needLet 11 = .ok (.ifCond .ne 14, 3) := by decide +kernel
theorem dX5_needLet_14 : decode cX5_needLet 14 = .ok (.new 148, 3) := by decide +kernel
theorem dX5_needLet_17 : decode cX5_needLet 17 = .ok (.dup, 1) := by decide +kernel
theorem dX5_needLet_18 : decode cX5_needLet 18 = .ok (.ldc_w 336, 3) := by decide +kernel
theorem dX5_needLet_21 : decode cX5_needLet 21 = .ok (.invokespecial 152, 3) := by decide +kernel
theorem dX5_needLet_24 : decode cX5_needLet 24 = .ok (.athrow, 1) := by decide +kernel
theorem dX5_needLet_25 : decode cX5_needLet 25 = .ok (.return_, 1) := by decide +kernel
theorem dX5_needDay_0 : decode cX5_needDay 0 = .ok (.iload_n 0, 1) := by decide +kernel
theorem dX5_needDay_1 : decode cX5_needDay 1 = .ok (.iconst 0, 1) := by decide +kernel
theorem dX5_needDay_2 : decode cX5_needDay 2 = .ok (.bipush 83, 2) := by decide +kernel
theorem dX5_needDay_4 : decode cX5_needDay 4 = .ok (.invokestatic 48, 3) := by decide +kernel
theorem dX5_needDay_7 : decode cX5_needDay 7 = .ok (.invokestatic 52, 3) := by decide +kernel
theorem dX5_needDay_10 : decode cX5_needDay 10 = .ok (.return_, 1) := by decide +kernel
theorem dX5_needHours_0 : decode cX5_needHours 0 = .ok (.iload_n 0, 1) := by decide +kernel
theorem dX5_needHours_1 : decode cX5_needHours 1 = .ok (.iconst 0, 1) := by decide +kernel
theorem dX5_needHours_2 : decode cX5_needHours 2 = .ok (.bipush 23, 2) := by decide +kernel
theorem dX5_needHours_4 : decode cX5_needHours 4 = .ok (.invokestatic 48, 3) := by decide +kernel
theorem dX5_needHours_7 : decode cX5_needHours 7 = .ok (.invokestatic 52, 3) := by decide +kernel
theorem dX5_needHours_10 : decode cX5_needHours 10 = .ok (.iload_n 1, 1) := by decide +kernel
theorem dX5_needHours_11 : decode cX5_needHours 11 = .ok (.iload_n 0, 1) := by decide +kernel
theorem dX5_needHours_12 : decode cX5_needHours 12 = .ok (.iconst 1, 1) := by decide +kernel
theorem dX5_needHours_13 : decode cX5_needHours 13 = .ok (.iadd, 1) := by decide +kernel
theorem dX5_needHours_14 : decode cX5_needHours 14 = .ok (.bipush 24, 2) := by decide +kernel
theorem dX5_needHours_16 : decode cX5_needHours 16 = .ok (.invokestatic 48, 3) := by decide +kernel
theorem dX5_needHours_19 : decode cX5_needHours 19 = .ok (.invokestatic 52, 3) := by decide +kernel
theorem dX5_needHours_22 : decode cX5_needHours 22 = .ok (.return_, 1) := by decide +kernel
theorem dX5_draftSingle_0 : decode cX5_draftSingle 0 = .ok (.iload_n 2, 1) := by decide +kernel
theorem dX5_draftSingle_1 : decode cX5_draftSingle 1 = .ok (.bipush 7, 2) := by decide +kernel
theorem dX5_draftSingle_3 : decode cX5_draftSingle 3 = .ok (.idiv, 1) := by decide +kernel
theorem dX5_draftSingle_4 : decode cX5_draftSingle 4 = .ok (.istore 7, 2) := by decide +kernel
theorem dX5_draftSingle_6 : decode cX5_draftSingle 6 = .ok (.aload_n 0, 1) := by decide +kernel
theorem dX5_draftSingle_7 : decode cX5_draftSingle 7 = .ok (.getfield 40, 3) := by decide +kernel
theorem dX5_draftSingle_10 : decode cX5_draftSingle 10 = .ok (.iload_n 1, 1) := by decide +kernel
theorem dX5_draftSingle_11 : decode cX5_draftSingle 11 = .ok (.iload_n 2, 1) := by decide +kernel
theorem dX5_draftSingle_12 : decode cX5_draftSingle 12 = .ok (.bipush 7, 2) := by decide +kernel
theorem dX5_draftSingle_14 : decode cX5_draftSingle 14 = .ok (.irem, 1) := by decide +kernel
theorem dX5_draftSingle_15 : decode cX5_draftSingle 15 = .ok (.iload_n 3, 1) := by decide +kernel
theorem dX5_draftSingle_16 : decode cX5_draftSingle 16 = .ok (.iload 4, 2) := by decide +kernel
theorem dX5_draftSingle_18 : decode cX5_draftSingle 18 = .ok (.invokevirtual 338, 3) := by decide +kernel
theorem dX5_draftSingle_21 : decode cX5_draftSingle 21 = .ok (.aload_n 0, 1) := by decide +kernel
theorem dX5_draftSingle_22 : decode cX5_draftSingle 22 = .ok (.getfield 40, 3) := by decide +kernel
theorem dX5_draftSingle_25 : decode cX5_draftSingle 25 = .ok (.iload 5, 2) := by decide +kernel
theorem dX5_draftSingle_27 : decode cX5_draftSingle 27 = .ok (.putfield 262, 3) := by decide +kernel
theorem dX5_draftSingle_30 : decode cX5_draftSingle 30 = .ok (.aload_n 0, 1) := by decide +kernel
theorem dX5_draftSingle_31 : decode cX5_draftSingle 31 = .ok (.getfield 40, 3) := by decide +kernel
theorem dX5_draftSingle_34 : decode cX5_draftSingle 34 = .ok (.iload 6, 2) := by decide +kernel
theorem dX5_draftSingle_36 : decode cX5_draftSingle 36 = .ok (.putfield 342, 3) := by decide +kernel
theorem dX5_draftSingle_39 : decode cX5_draftSingle 39 = .ok (.aload_n 0, 1) := by decide +kernel
theorem dX5_draftSingle_40 : decode cX5_draftSingle 40 = .ok (.getfield 40, 3) := by decide +kernel
theorem dX5_draftSingle_43 : decode cX5_draftSingle 43 = .ok (.aload_n 0, 1) := by decide +kernel
theorem dX5_draftSingle_44 : decode cX5_draftSingle 44 = .ok (.iload_n 1, 1) := by decide +kernel
theorem dX5_draftSingle_45 : decode cX5_draftSingle 45 = .ok (.iload_n 2, 1) := by decide +kernel
theorem dX5_draftSingle_46 : decode cX5_draftSingle 46 = .ok (.bipush 7, 2) := by decide +kernel
theorem dX5_draftSingle_48 : decode cX5_draftSingle 48 = .ok (.irem, 1) := by decide +kernel
theorem dX5_draftSingle_49 : decode cX5_draftSingle 49 = .ok (.iload 4, 2) := by decide +kernel
theorem dX5_draftSingle_51 : decode cX5_draftSingle 51 = .ok (.iload_n 3, 1) := by decide +kernel
theorem dX5_draftSingle_52 : decode cX5_draftSingle 52 = .ok (.isub, 1) := by decide +kernel
theorem dX5_draftSingle_53 : decode cX5_draftSingle 53 = .ok (.iconst 0, 1) := by decide +kernel
theorem dX5_draftSingle_54 : decode cX5_draftSingle 54 = .ok (.invokevirtual 258, 3) := by decide +kernel
theorem dX5_draftSingle_57 : decode cX5_draftSingle 57 = .ok (.putfield 141, 3) := by decide +kernel
theorem dX5_draftSingle_60 : decode cX5_draftSingle 60 = .ok (.aload_n 0, 1) := by decide +kernel
theorem dX5_draftSingle_61 : decode cX5_draftSingle 61 = .ok (.getfield 40, 3) := by decide +kernel
theorem dX5_draftSingle_64 : decode cX5_draftSingle 64 = .ok (.iload 7, 2) := by decide +kernel
theorem dX5_draftSingle_66 : decode cX5_draftSingle 66 = .ok (.putfield 220, 3) := by decide +kernel
theorem dX5_draftSingle_69 : decode cX5_draftSingle 69 = .ok (.aload_n 0, 1) := by decide +kernel
theorem dX5_draftSingle_70 : decode cX5_draftSingle 70 = .ok (.getfield 40, 3) := by decide +kernel
theorem dX5_draftSingle_73 : decode cX5_draftSingle 73 = .ok (.iload 7, 2) := by decide +kernel
theorem dX5_draftSingle_75 : decode cX5_draftSingle 75 = .ok (.putfield 223, 3) := by decide +kernel
theorem dX5_draftSingle_78 : decode cX5_draftSingle 78 = .ok (.aload_n 0, 1) := by decide +kernel
theorem dX5_draftSingle_79 : decode cX5_draftSingle 79 = .ok (.getfield 40, 3) := by decide +kernel
theorem dX5_draftSingle_82 : decode cX5_draftSingle 82 = .ok (.iconst 1, 1) := by decide +kernel
theorem dX5_draftSingle_83 : decode cX5_draftSingle 83 = .ok (.iload 7, 2) := by decide +kernel
theorem dX5_draftSingle_85 : decode cX5_draftSingle 85 = .ok (.ishl, 1) := by decide +kernel
theorem dX5_draftSingle_86 : decode cX5_draftSingle 86 = .ok (.putfield 81, 3) := by decide +kernel
theorem dX5_draftSingle_89 : decode cX5_draftSingle 89 = .ok (.return_, 1) := by decide +kernel
theorem dX5_draftRegular_0 : decode cX5_draftRegular 0 = .ok (.aload_n 0, 1) := by decide +kernel
theorem dX5_draftRegular_1 : decode cX5_draftRegular 1 = .ok (.getfield 40, 3) := by decide +kernel
theorem dX5_draftRegular_4 : decode cX5_draftRegular 4 = .ok (.iload_n 1, 1) := by decide +kernel
theorem dX5_draftRegular_5 : decode cX5_draftRegular 5 = .ok (.iload_n 2, 1) := by decide +kernel
theorem dX5_draftRegular_6 : decode cX5_draftRegular 6 = .ok (.iload_n 3, 1) := by decide +kernel
theorem dX5_draftRegular_7 : decode cX5_draftRegular 7 = .ok (.iload 4, 2) := by decide +kernel
theorem dX5_draftRegular_9 : decode cX5_draftRegular 9 = .ok (.invokevirtual 338, 3) := by decide +kernel
theorem dX5_draftRegular_12 : decode cX5_draftRegular 12 = .ok (.aload_n 0, 1) := by decide +kernel
theorem dX5_draftRegular_13 : decode cX5_draftRegular 13 = .ok (.getfield 40, 3) := by decide +kernel
theorem dX5_draftRegular_16 : decode cX5_draftRegular 16 = .ok (.iload 5, 2) := by decide +kernel
theorem dX5_draftRegular_18 : decode cX5_draftRegular 18 = .ok (.putfield 262, 3) := by decide +kernel
theorem dX5_draftRegular_21 : decode cX5_draftRegular 21 = .ok (.aload_n 0, 1) := by decide +kernel
theorem dX5_draftRegular_22 : decode cX5_draftRegular 22 = .ok (.getfield 40, 3) := by decide +kernel
theorem dX5_draftRegular_25 : decode cX5_draftRegular 25 = .ok (.iload 6, 2) := by decide +kernel
theorem dX5_draftRegular_27 : decode cX5_draftRegular 27 = .ok (.putfield 342, 3) := by decide +kernel
theorem dX5_draftRegular_30 : decode cX5_draftRegular 30 = .ok (.aload_n 0, 1) := by decide +kernel
theorem dX5_draftRegular_31 : decode cX5_draftRegular 31 = .ok (.getfield 40, 3) := by decide +kernel
theorem dX5_draftRegular_34 : decode cX5_draftRegular 34 = .ok (.aload_n 0, 1) := by decide +kernel
theorem dX5_draftRegular_35 : decode cX5_draftRegular 35 = .ok (.iload_n 1, 1) := by decide +kernel
theorem dX5_draftRegular_36 : decode cX5_draftRegular 36 = .ok (.iload_n 2, 1) := by decide +kernel
theorem dX5_draftRegular_37 : decode cX5_draftRegular 37 = .ok (.iload 4, 2) := by decide +kernel
theorem dX5_draftRegular_39 : decode cX5_draftRegular 39 = .ok (.iload_n 3, 1) := by decide +kernel
theorem dX5_draftRegular_40 : decode cX5_draftRegular 40 = .ok (.isub, 1) := by decide +kernel
theorem dX5_draftRegular_41 : decode cX5_draftRegular 41 = .ok (.aload_n 0, 1) := by decide +kernel
theorem dX5_draftRegular_42 : decode cX5_draftRegular 42 = .ok (.getfield 10, 3) := by decide +kernel
theorem dX5_draftRegular_45 : decode cX5_draftRegular 45 = .ok (.getfield 162, 3) := by decide +kernel
theorem dX5_draftRegular_48 : decode cX5_draftRegular 48 = .ok (.iconst 1, 1) := by decide +kernel
theorem dX5_draftRegular_49 : decode cX5_draftRegular 49 = .ok (.iaload, 1) := by decide +kernel
theorem dX5_draftRegular_50 : decode cX5_draftRegular 50 = .ok (.invokevirtual 258, 3) := by decide +kernel
theorem dX5_draftRegular_53 : decode cX5_draftRegular 53 = .ok (.putfield 141, 3) := by decide +kernel
theorem dX5_draftRegular_56 : decode cX5_draftRegular 56 = .ok (.aload_n 0, 1) := by decide +kernel
theorem dX5_draftRegular_57 : decode cX5_draftRegular 57 = .ok (.getfield 40, 3) := by decide +kernel
theorem dX5_draftRegular_60 : decode cX5_draftRegular 60 = .ok (.aload_n 0, 1) := by decide +kernel
theorem dX5_draftRegular_61 : decode cX5_draftRegular 61 = .ok (.getfield 10, 3) := by decide +kernel
theorem dX5_draftRegular_64 : decode cX5_draftRegular 64 = .ok (.getfield 162, 3) := by decide +kernel
theorem dX5_draftRegular_67 : decode cX5_draftRegular 67 = .ok (.iconst 3, 1) := by decide +kernel
theorem dX5_draftRegular_68 : decode cX5_draftRegular 68 = .ok (.iaload, 1) := by decide +kernel
theorem dX5_draftRegular_69 : decode cX5_draftRegular 69 = .ok (.putfield 220, 3) := by decide +kernel
theorem dX5_draftRegular_72 : decode cX5_draftRegular 72 = .ok (.aload_n 0, 1) := by decide +kernel
theorem dX5_draftRegular_73 : decode cX5_draftRegular 73 = .ok (.getfield 40, 3) := by decide +kernel
theorem dX5_draftRegular_76 : decode cX5_draftRegular 76 = .ok (.aload_n 0, 1) := by decide +kernel
theorem dX5_draftRegular_77 : decode cX5_draftRegular 77 = .ok (.getfield 10, 3) := by decide +kernel
theorem dX5_draftRegular_80 : decode cX5_draftRegular 80 = .ok (.getfield 162, 3) := by decide +kernel
theorem dX5_draftRegular_83 : decode cX5_draftRegular 83 = .ok (.iconst 4, 1) := by decide +kernel
theorem dX5_draftRegular_84 : decode cX5_draftRegular 84 = .ok (.iaload, 1) := by decide +kernel
theorem dX5_draftRegular_85 : decode cX5_draftRegular 85 = .ok (.putfield 223, 3) := by decide +kernel
theorem dX5_draftRegular_88 : decode cX5_draftRegular 88 = .ok (.aload_n 0, 1) := by decide +kernel
theorem dX5_draftRegular_89 : decode cX5_draftRegular 89 = .ok (.getfield 40, 3) := by decide +kernel
theorem dX5_draftRegular_92 : decode cX5_draftRegular 92 = .ok (.iconst 0, 1) := by decide +kernel
theorem dX5_draftRegular_93 : decode cX5_draftRegular 93 = .ok (.putfield 81, 3) := by decide +kernel
theorem dX5_draftRegular_96 : decode cX5_draftRegular 96 = .ok (.aload_n 0, 1) := by decide +kernel
theorem dX5_draftRegular_97 : decode cX5_draftRegular 97 = .ok (.getfield 40, 3) := by decide +kernel
theorem dX5_draftRegular_100 : decode cX5_draftRegular 100 = .ok (.getfield 220, 3) := by decide +kernel
theorem dX5_draftRegular_103 : decode cX5_draftRegular 103 = .ok (.istore 7, 2) := by decide +kernel
theorem dX5_draftRegular_105 : decode cX5_draftRegular 105 = .ok (.iload 7, 2) := by decide +kernel
theorem dX5_draftRegular_107 : decode cX5_draftRegular 107 = .ok (.aload_n 0, 1) := by decide +kernel
theorem dX5_draftRegular_108 : decode cX5_draftRegular 108 = .ok (.getfield 40, 3) := by decide +kernel
theorem dX5_draftRegular_111 : decode cX5_draftRegular 111 = .ok (.getfield 223, 3) := by decide +kernel
theorem dX5_draftRegular_114 : decode cX5_draftRegular 114 = .ok (.if_icmp .gt 66, 3) := by decide +kernel
theorem dX5_draftRegular_117 : decode cX5_draftRegular 117 = .ok (.aload_n 0, 1) := by decide +kernel
theorem dX5_draftRegular_118 : decode cX5_draftRegular 118 = .ok (.getfield 33, 3) := by decide +kernel
theorem dX5_draftRegular_121 : decode cX5_draftRegular 121 = .ok (.aload_n 0, 1) := by decide +kernel
theorem dX5_draftRegular_122 : decode cX5_draftRegular 122 = .ok (.getfield 10, 3) := by decide +kernel
theorem dX5_draftRegular_125 : decode cX5_draftRegular 125 = .ok (.bipush 7, 2) := by decide +kernel
theorem dX5_draftRegular_127 : decode cX5_draftRegular 127 = .ok (.iload 7, 2) := by decide +kernel
theorem dX5_draftRegular_129 : decode cX5_draftRegular 129 = .ok (.imul, 1) := by decide +kernel
theorem dX5_draftRegular_130 : decode cX5_draftRegular 130 = .ok (.iload_n 2, 1) := by decide +kernel
theorem dX5_draftRegular_131 : decode cX5_draftRegular 131 = .ok (.iadd, 1) := by decide +kernel
theorem dX5_draftRegular_132 : decode cX5_draftRegular 132 = .ok (.invokevirtual 233, 3) := by decide +kernel
theorem dX5_draftRegular_135 : decode cX5_draftRegular 135 = .ok (.aload_n 0, 1) := by decide +kernel
theorem dX5_draftRegular_136 : decode cX5_draftRegular 136 = .ok (.getfield 33, 3) := by decide +kernel
theorem dX5_draftRegular_139 : decode cX5_draftRegular 139 = .ok (.aload_n 0, 1) := by decide +kernel
theorem dX5_draftRegular_140 : decode cX5_draftRegular 140 = .ok (.getfield 40, 3) := by decide +kernel
theorem dX5_draftRegular_143 : decode cX5_draftRegular 143 = .ok (.aload_n 0, 1) := by decide +kernel
theorem dX5_draftRegular_144 : decode cX5_draftRegular 144 = .ok (.getfield 10, 3) := by decide +kernel
theorem dX5_draftRegular_147 : decode cX5_draftRegular 147 = .ok (.getfield 162, 3) := by decide +kernel
theorem dX5_draftRegular_150 : decode cX5_draftRegular 150 = .ok (.iconst 0, 1) := by decide +kernel
theorem dX5_draftRegular_151 : decode cX5_draftRegular 151 = .ok (.iaload, 1) := by decide +kernel
theorem dX5_draftRegular_152 : decode cX5_draftRegular 152 = .ok (.invokevirtual 344, 3) := by decide +kernel
theorem dX5_draftRegular_155 : decode cX5_draftRegular 155 = .ok (.ifCond .ne 19, 3) := by decide +kernel
theorem dX5_draftRegular_158 : decode cX5_draftRegular 158 = .ok (.aload_n 0, 1) := by decide +kernel
theorem dX5_draftRegular_159 : decode cX5_draftRegular 159 = .ok (.getfield 40, 3) := by decide +kernel
theorem dX5_draftRegular_162 : decode cX5_draftRegular 162 = .ok (.dup, 1) := by decide +kernel
theorem dX5_draftRegular_163 : decode cX5_draftRegular 163 = .ok (.getfield 81, 3) := by decide +kernel
theorem dX5_draftRegular_166 : decode cX5_draftRegular 166 = .ok (.iconst 1, 1) := by decide +kernel
theorem dX5_draftRegular_167 : decode cX5_draftRegular 167 = .ok (.iload 7, 2) := by decide +kernel
theorem dX5_draftRegular_169 : decode cX5_draftRegular 169 = .ok (.ishl, 1) := by decide +kernel
theorem dX5_draftRegular_170 : decode cX5_draftRegular 170 = .ok (.ior, 1) := by decide +kernel
theorem dX5_draftRegular_171 : decode cX5_draftRegular 171 = .ok (.putfield 81, 3) := by decide +kernel
theorem dX5_draftRegular_174 : decode cX5_draftRegular 174 = .ok (.iinc 7 1, 3) := by decide +kernel
theorem dX5_draftRegular_177 : decode cX5_draftRegular 177 = .ok (.goto (-72), 3) := by decide +kernel
theorem dX5_draftRegular_180 : decode cX5_draftRegular 180 = .ok (.return_, 1) := by decide +kernel
theorem dX5_rentForDay_0 : decode cX5_rentForDay 0 = .ok (.iload_n 3, 1) := by decide +kernel
theorem dX5_rentForDay_1 : decode cX5_rentForDay 1 = .ok (.aload_n 0, 1) := by decide +kernel
theorem dX5_rentForDay_2 : decode cX5_rentForDay 2 = .ok (.getfield 10, 3) := by decide +kernel
theorem dX5_rentForDay_5 : decode cX5_rentForDay 5 = .ok (.getfield 144, 3) := by decide +kernel
theorem dX5_rentForDay_8 : decode cX5_rentForDay 8 = .ok (.iload_n 1, 1) := by decide +kernel
theorem dX5_rentForDay_9 : decode cX5_rentForDay 9 = .ok (.iaload, 1) := by decide +kernel
theorem dX5_rentForDay_10 : decode cX5_rentForDay 10 = .ok (.imul, 1) := by decide +kernel
theorem dX5_rentForDay_11 : decode cX5_rentForDay 11 = .ok (.bipush 100, 2) := by decide +kernel
theorem dX5_rentForDay_13 : decode cX5_rentForDay 13 = .ok (.iload 4, 2) := by decide +kernel
theorem dX5_rentForDay_15 : decode cX5_rentForDay 15 = .ok (.isub, 1) := by decide +kernel
theorem dX5_rentForDay_16 : decode cX5_rentForDay 16 = .ok (.imul, 1) := by decide +kernel
theorem dX5_rentForDay_17 : decode cX5_rentForDay 17 = .ok (.bipush 100, 2) := by decide +kernel
theorem dX5_rentForDay_19 : decode cX5_rentForDay 19 = .ok (.idiv, 1) := by decide +kernel
theorem dX5_rentForDay_20 : decode cX5_rentForDay 20 = .ok (.istore 5, 2) := by decide +kernel
theorem dX5_rentForDay_22 : decode cX5_rentForDay 22 = .ok (.iload_n 2, 1) := by decide +kernel
theorem dX5_rentForDay_23 : decode cX5_rentForDay 23 = .ok (.iconst 5, 1) := by decide +kernel
theorem dX5_rentForDay_24 : decode cX5_rentForDay 24 = .ok (.if_icmp .lt 24, 3) := by decide +kernel
theorem dX5_rentForDay_27 : decode cX5_rentForDay 27 = .ok (.iload 5, 2) := by decide +kernel
theorem dX5_rentForDay_29 : decode cX5_rentForDay 29 = .ok (.bipush 100, 2) := by decide +kernel
theorem dX5_rentForDay_31 : decode cX5_rentForDay 31 = .ok (.aload_n 0, 1) := by decide +kernel
theorem dX5_rentForDay_32 : decode cX5_rentForDay 32 = .ok (.getfield 10, 3) := by decide +kernel
theorem dX5_rentForDay_35 : decode cX5_rentForDay 35 = .ok (.getfield 162, 3) := by decide +kernel
theorem dX5_rentForDay_38 : decode cX5_rentForDay 38 = .ok (.iconst 2, 1) := by decide +kernel
theorem dX5_rentForDay_39 : decode cX5_rentForDay 39 = .ok (.iaload, 1) := by decide +kernel
theorem dX5_rentForDay_40 : decode cX5_rentForDay 40 = .ok (.iadd, 1) := by decide +kernel
theorem dX5_rentForDay_41 : decode cX5_rentForDay 41 = .ok (.imul, 1) := by decide +kernel
theorem dX5_rentForDay_42 : decode cX5_rentForDay 42 = .ok (.bipush 100, 2) := by decide +kernel
theorem dX5_rentForDay_44 : decode cX5_rentForDay 44 = .ok (.idiv, 1) := by decide +kernel
theorem dX5_rentForDay_45 : decode cX5_rentForDay 45 = .ok (.goto 5, 3) := by decide +kernel
theorem dX5_rentForDay_48 : decode cX5_rentForDay 48 = .ok (.iload 5, 2) := by decide +kernel
theorem dX5_rentForDay_50 : decode cX5_rentForDay 50 = .ok (.ireturn, 1) := by decide +kernel
theorem dX5_reasonAgainstDraft_0 : decode cX5_reasonAgainstDraft 0 = .ok (.aload_n 0, 1) := by decide +kernel
theorem dX5_reasonAgainstDraft_1 : decode cX5_reasonAgainstDraft 1 = .ok (.getfield 10, 3) := by decide +kernel
theorem dX5_reasonAgainstDraft_4 : decode cX5_reasonAgainstDraft 4 = .ok (.getfield 112, 3) := by decide +kernel
theorem dX5_reasonAgainstDraft_7 : decode cX5_reasonAgainstDraft 7 = .ok (.invokevirtual 64, 3) := by decide +kernel
theorem dX5_reasonAgainstDraft_10 : decode cX5_reasonAgainstDraft 10 = .ok (.ifCond .eq 5, 3) := by decide +kernel
theorem dX5_reasonAgainstDraft_13 : decode cX5_reasonAgainstDraft 13 = .ok (.iconst 1, 1) := by decide +kernel
theorem dX5_reasonAgainstDraft_14 : decode cX5_reasonAgainstDraft 14 = .ok (.ireturn, 1) := by decide +kernel
theorem dX5_reasonAgainstDraft_15 : decode cX5_reasonAgainstDraft 15 = .ok (.aload_n 0, 1) := by decide +kernel
theorem dX5_reasonAgainstDraft_16 : decode cX5_reasonAgainstDraft 16 = .ok (.getfield 33, 3) := by decide +kernel
theorem dX5_reasonAgainstDraft_19 : decode cX5_reasonAgainstDraft 19 = .ok (.aload_n 0, 1) := by decide +kernel
theorem dX5_reasonAgainstDraft_20 : decode cX5_reasonAgainstDraft 20 = .ok (.getfield 10, 3) := by decide +kernel
theorem dX5_reasonAgainstDraft_23 : decode cX5_reasonAgainstDraft 23 = .ok (.iload_n 1, 1) := by decide +kernel
theorem dX5_reasonAgainstDraft_24 : decode cX5_reasonAgainstDraft 24 = .ok (.invokevirtual 233, 3) := by decide +kernel
theorem dX5_reasonAgainstDraft_27 : decode cX5_reasonAgainstDraft 27 = .ok (.aload_n 0, 1) := by decide +kernel
theorem dX5_reasonAgainstDraft_28 : decode cX5_reasonAgainstDraft 28 = .ok (.getfield 33, 3) := by decide +kernel
theorem dX5_reasonAgainstDraft_31 : decode cX5_reasonAgainstDraft 31 = .ok (.aload_n 0, 1) := by decide +kernel
theorem dX5_reasonAgainstDraft_32 : decode cX5_reasonAgainstDraft 32 = .ok (.getfield 40, 3) := by decide +kernel
theorem dX5_reasonAgainstDraft_35 : decode cX5_reasonAgainstDraft 35 = .ok (.aload_n 0, 1) := by decide +kernel
theorem dX5_reasonAgainstDraft_36 : decode cX5_reasonAgainstDraft 36 = .ok (.getfield 10, 3) := by decide +kernel
theorem dX5_reasonAgainstDraft_39 : decode cX5_reasonAgainstDraft 39 = .ok (.getfield 162, 3) := by decide +kernel
theorem dX5_reasonAgainstDraft_42 : decode cX5_reasonAgainstDraft 42 = .ok (.iconst 0, 1) := by decide +kernel
theorem dX5_reasonAgainstDraft_43 : decode cX5_reasonAgainstDraft 43 = .ok (.iaload, 1) := by decide +kernel
theorem dX5_reasonAgainstDraft_44 : decode cX5_reasonAgainstDraft 44 = .ok (.invokevirtual 344, 3) := by decide +kernel
theorem dX5_reasonAgainstDraft_47 : decode cX5_reasonAgainstDraft 47 = .ok (.ireturn, 1) := by decide +kernel
theorem dX5_firstFreeHour_0 : decode cX5_firstFreeHour 0 = .ok (.aload_n 0, 1) := by decide +kernel
theorem dX5_firstFreeHour_1 : decode cX5_firstFreeHour 1 = .ok (.getfield 33, 3) := by decide +kernel
theorem dX5_firstFreeHour_4 : decode cX5_firstFreeHour 4 = .ok (.aload_n 0, 1) := by decide +kernel
theorem dX5_firstFreeHour_5 : decode cX5_firstFreeHour 5 = .ok (.getfield 10, 3) := by decide +kernel
theorem dX5_firstFreeHour_8 : decode cX5_firstFreeHour 8 = .ok (.iload_n 2, 1) := by decide +kernel
theorem dX5_firstFreeHour_9 : decode cX5_firstFreeHour 9 = .ok (.invokevirtual 233, 3) := by decide +kernel
theorem dX5_firstFreeHour_12 : decode cX5_firstFreeHour 12 = .ok (.iconst 0, 1) := by decide +kernel
theorem dX5_firstFreeHour_13 : decode cX5_firstFreeHour 13 = .ok (.istore 4, 2) := by decide +kernel
theorem dX5_firstFreeHour_15 : decode cX5_firstFreeHour 15 = .ok (.iload 4, 2) := by decide +kernel
theorem dX5_firstFreeHour_17 : decode cX5_firstFreeHour 17 = .ok (.iload_n 3, 1) := by decide +kernel
theorem dX5_firstFreeHour_18 : decode cX5_firstFreeHour 18 = .ok (.iadd, 1) := by decide +kernel
theorem dX5_firstFreeHour_19 : decode cX5_firstFreeHour 19 = .ok (.bipush 24, 2) := by decide +kernel
theorem dX5_firstFreeHour_21 : decode cX5_firstFreeHour 21 = .ok (.if_icmp .gt 53, 3) := by decide +kernel
theorem dX5_firstFreeHour_24 : decode cX5_firstFreeHour 24 = .ok (.aload_n 0, 1) := by decide +kernel
theorem dX5_firstFreeHour_25 : decode cX5_firstFreeHour 25 = .ok (.getfield 40, 3) := by decide +kernel
theorem dX5_firstFreeHour_28 : decode cX5_firstFreeHour 28 = .ok (.iload_n 1, 1) := by decide +kernel
theorem dX5_firstFreeHour_29 : decode cX5_firstFreeHour 29 = .ok (.iload_n 2, 1) := by decide +kernel
theorem dX5_firstFreeHour_30 : decode cX5_firstFreeHour 30 = .ok (.bipush 7, 2) := by decide +kernel
theorem dX5_firstFreeHour_32 : decode cX5_firstFreeHour 32 = .ok (.irem, 1) := by decide +kernel
theorem dX5_firstFreeHour_33 : decode cX5_firstFreeHour 33 = .ok (.iload 4, 2) := by decide +kernel
theorem dX5_firstFreeHour_35 : decode cX5_firstFreeHour 35 = .ok (.iload 4, 2) := by decide +kernel
theorem dX5_firstFreeHour_37 : decode cX5_firstFreeHour 37 = .ok (.iload_n 3, 1) := by decide +kernel
theorem dX5_firstFreeHour_38 : decode cX5_firstFreeHour 38 = .ok (.iadd, 1) := by decide +kernel
theorem dX5_firstFreeHour_39 : decode cX5_firstFreeHour 39 = .ok (.invokevirtual 338, 3) := by decide +kernel
theorem dX5_firstFreeHour_42 : decode cX5_firstFreeHour 42 = .ok (.aload_n 0, 1) := by decide +kernel
theorem dX5_firstFreeHour_43 : decode cX5_firstFreeHour 43 = .ok (.getfield 33, 3) := by decide +kernel
theorem dX5_firstFreeHour_46 : decode cX5_firstFreeHour 46 = .ok (.aload_n 0, 1) := by decide +kernel
theorem dX5_firstFreeHour_47 : decode cX5_firstFreeHour 47 = .ok (.getfield 40, 3) := by decide +kernel
theorem dX5_firstFreeHour_50 : decode cX5_firstFreeHour 50 = .ok (.aload_n 0, 1) := by decide +kernel
theorem dX5_firstFreeHour_51 : decode cX5_firstFreeHour 51 = .ok (.getfield 10, 3) := by decide +kernel
theorem dX5_firstFreeHour_54 : decode cX5_firstFreeHour 54 = .ok (.getfield 162, 3) := by decide +kernel
theorem dX5_firstFreeHour_57 : decode cX5_firstFreeHour 57 = .ok (.iconst 0, 1) := by decide +kernel
theorem dX5_firstFreeHour_58 : decode cX5_firstFreeHour 58 = .ok (.iaload, 1) := by decide +kernel
theorem dX5_firstFreeHour_59 : decode cX5_firstFreeHour 59 = .ok (.invokevirtual 344, 3) := by decide +kernel
theorem dX5_firstFreeHour_62 : decode cX5_firstFreeHour 62 = .ok (.ifCond .ne 6, 3) := by decide +kernel
theorem dX5_firstFreeHour_65 : decode cX5_firstFreeHour 65 = .ok (.iload 4, 2) := by decide +kernel
theorem dX5_firstFreeHour_67 : decode cX5_firstFreeHour 67 = .ok (.ireturn, 1) := by decide +kernel
theorem dX5_firstFreeHour_68 : decode cX5_firstFreeHour 68 = .ok (.iinc 4 1, 3) := by decide +kernel
theorem dX5_firstFreeHour_71 : decode cX5_firstFreeHour 71 = .ok (.goto (-56), 3) := by decide +kernel
theorem dX5_firstFreeHour_74 : decode cX5_firstFreeHour 74 = .ok (.iconst (-1), 1) := by decide +kernel
theorem dX5_firstFreeHour_75 : decode cX5_firstFreeHour 75 = .ok (.ireturn, 1) := by decide +kernel
theorem dX5_makeSingle_0 : decode cX5_makeSingle 0 = .ok (.aload_n 0, 1) := by decide +kernel
theorem dX5_makeSingle_1 : decode cX5_makeSingle 1 = .ok (.getfield 10, 3) := by decide +kernel
theorem dX5_makeSingle_4 : decode cX5_makeSingle 4 = .ok (.aload_n 0, 1) := by decide +kernel
theorem dX5_makeSingle_5 : decode cX5_makeSingle 5 = .ok (.getfield 40, 3) := by decide +kernel
theorem dX5_makeSingle_8 : decode cX5_makeSingle 8 = .ok (.iload_n 1, 1) := by decide +kernel
theorem dX5_makeSingle_9 : decode cX5_makeSingle 9 = .ok (.invokevirtual 347, 3) := by decide +kernel
theorem dX5_makeSingle_12 : decode cX5_makeSingle 12 = .ok (.istore_n 2, 1) := by decide +kernel
theorem dX5_makeSingle_13 : decode cX5_makeSingle 13 = .ok (.aload_n 0, 1) := by decide +kernel
theorem dX5_makeSingle_14 : decode cX5_makeSingle 14 = .ok (.getfield 10, 3) := by decide +kernel
theorem dX5_makeSingle_17 : decode cX5_makeSingle 17 = .ok (.getfield 112, 3) := by decide +kernel
theorem dX5_makeSingle_20 : decode cX5_makeSingle 20 = .ok (.aload_n 0, 1) := by decide +kernel
theorem dX5_makeSingle_21 : decode cX5_makeSingle 21 = .ok (.getfield 40, 3) := by decide +kernel
theorem dX5_makeSingle_24 : decode cX5_makeSingle 24 = .ok (.invokevirtual 350, 3) := by decide +kernel
theorem dX5_makeSingle_27 : decode cX5_makeSingle 27 = .ok (.aload_n 0, 1) := by decide +kernel
theorem dX5_makeSingle_28 : decode cX5_makeSingle 28 = .ok (.getfield 10, 3) := by decide +kernel
theorem dX5_makeSingle_31 : decode cX5_makeSingle 31 = .ok (.dup, 1) := by decide +kernel
theorem dX5_makeSingle_32 : decode cX5_makeSingle 32 = .ok (.getfield 252, 3) := by decide +kernel
theorem dX5_makeSingle_35 : decode cX5_makeSingle 35 = .ok (.aload_n 0, 1) := by decide +kernel
theorem dX5_makeSingle_36 : decode cX5_makeSingle 36 = .ok (.getfield 40, 3) := by decide +kernel
theorem dX5_makeSingle_39 : decode cX5_makeSingle 39 = .ok (.getfield 141, 3) := by decide +kernel
theorem dX5_makeSingle_42 : decode cX5_makeSingle 42 = .ok (.iadd, 1) := by decide +kernel
theorem dX5_makeSingle_43 : decode cX5_makeSingle 43 = .ok (.putfield 252, 3) := by decide +kernel
theorem dX5_makeSingle_46 : decode cX5_makeSingle 46 = .ok (.iload_n 2, 1) := by decide +kernel
theorem dX5_makeSingle_47 : decode cX5_makeSingle 47 = .ok (.ireturn, 1) := by decide +kernel
theorem dX5_makeRegular_0 : decode cX5_makeRegular 0 = .ok (.aload_n 0, 1) := by decide +kernel
theorem dX5_makeRegular_1 : decode cX5_makeRegular 1 = .ok (.getfield 40, 3) := by decide +kernel
theorem dX5_makeRegular_4 : decode cX5_makeRegular 4 = .ok (.getfield 220, 3) := by decide +kernel
theorem dX5_makeRegular_7 : decode cX5_makeRegular 7 = .ok (.istore_n 1, 1) := by decide +kernel
theorem dX5_makeRegular_8 : decode cX5_makeRegular 8 = .ok (.iload_n 1, 1) := by decide +kernel
theorem dX5_makeRegular_9 : decode cX5_makeRegular 9 = .ok (.aload_n 0, 1) := by decide +kernel
theorem dX5_makeRegular_10 : decode cX5_makeRegular 10 = .ok (.getfield 40, 3) := by decide +kernel
theorem dX5_makeRegular_13 : decode cX5_makeRegular 13 = .ok (.getfield 223, 3) := by decide +kernel
theorem dX5_makeRegular_16 : decode cX5_makeRegular 16 = .ok (.if_icmp .gt 46, 3) := by decide +kernel
theorem dX5_makeRegular_19 : decode cX5_makeRegular 19 = .ok (.bipush 7, 2) := by decide +kernel
theorem dX5_makeRegular_21 : decode cX5_makeRegular 21 = .ok (.iload_n 1, 1) := by decide +kernel
theorem dX5_makeRegular_22 : decode cX5_makeRegular 22 = .ok (.imul, 1) := by decide +kernel
theorem dX5_makeRegular_23 : decode cX5_makeRegular 23 = .ok (.aload_n 0, 1) := by decide +kernel
theorem dX5_makeRegular_24 : decode cX5_makeRegular 24 = .ok (.getfield 40, 3) := by decide +kernel
theorem dX5_makeRegular_27 : decode cX5_makeRegular 27 = .ok (.getfield 217, 3) := by decide +kernel
theorem dX5_makeRegular_30 : decode cX5_makeRegular 30 = .ok (.iadd, 1) := by decide +kernel
theorem dX5_makeRegular_31 : decode cX5_makeRegular 31 = .ok (.istore_n 2, 1) := by decide +kernel
theorem dX5_makeRegular_32 : decode cX5_makeRegular 32 = .ok (.aload_n 0, 1) := by decide +kernel
theorem dX5_makeRegular_33 : decode cX5_makeRegular 33 = .ok (.getfield 40, 3) := by decide +kernel
theorem dX5_makeRegular_36 : decode cX5_makeRegular 36 = .ok (.iload_n 2, 1) := by decide +kernel
theorem dX5_makeRegular_37 : decode cX5_makeRegular 37 = .ok (.invokevirtual 132, 3) := by decide +kernel
theorem dX5_makeRegular_40 : decode cX5_makeRegular 40 = .ok (.ifCond .eq 16, 3) := by decide +kernel
theorem dX5_makeRegular_43 : decode cX5_makeRegular 43 = .ok (.aload_n 0, 1) := by decide +kernel
theorem dX5_makeRegular_44 : decode cX5_makeRegular 44 = .ok (.getfield 10, 3) := by decide +kernel
theorem dX5_makeRegular_47 : decode cX5_makeRegular 47 = .ok (.aload_n 0, 1) := by decide +kernel
theorem dX5_makeRegular_48 : decode cX5_makeRegular 48 = .ok (.getfield 40, 3) := by decide +kernel
theorem dX5_makeRegular_51 : decode cX5_makeRegular 51 = .ok (.iload_n 2, 1) := by decide +kernel
theorem dX5_makeRegular_52 : decode cX5_makeRegular 52 = .ok (.invokevirtual 347, 3) := by decide +kernel
theorem dX5_makeRegular_55 : decode cX5_makeRegular 55 = .ok (.pop, 1) := by decide +kernel
theorem dX5_makeRegular_56 : decode cX5_makeRegular 56 = .ok (.iinc 1 1, 3) := by decide +kernel
theorem dX5_makeRegular_59 : decode cX5_makeRegular 59 = .ok (.goto (-51), 3) := by decide +kernel
theorem dX5_makeRegular_62 : decode cX5_makeRegular 62 = .ok (.aload_n 0, 1) := by decide +kernel
theorem dX5_makeRegular_63 : decode cX5_makeRegular 63 = .ok (.getfield 10, 3) := by decide +kernel
theorem dX5_makeRegular_66 : decode cX5_makeRegular 66 = .ok (.getfield 60, 3) := by decide +kernel
theorem dX5_makeRegular_69 : decode cX5_makeRegular 69 = .ok (.aload_n 0, 1) := by decide +kernel
theorem dX5_makeRegular_70 : decode cX5_makeRegular 70 = .ok (.getfield 40, 3) := by decide +kernel
theorem dX5_makeRegular_73 : decode cX5_makeRegular 73 = .ok (.invokevirtual 350, 3) := by decide +kernel
theorem dX5_makeRegular_76 : decode cX5_makeRegular 76 = .ok (.aload_n 0, 1) := by decide +kernel
theorem dX5_makeRegular_77 : decode cX5_makeRegular 77 = .ok (.getfield 10, 3) := by decide +kernel
theorem dX5_makeRegular_80 : decode cX5_makeRegular 80 = .ok (.dup, 1) := by decide +kernel
theorem dX5_makeRegular_81 : decode cX5_makeRegular 81 = .ok (.getfield 252, 3) := by decide +kernel
theorem dX5_makeRegular_84 : decode cX5_makeRegular 84 = .ok (.aload_n 0, 1) := by decide +kernel
theorem dX5_makeRegular_85 : decode cX5_makeRegular 85 = .ok (.getfield 40, 3) := by decide +kernel
theorem dX5_makeRegular_88 : decode cX5_makeRegular 88 = .ok (.invokevirtual 123, 3) := by decide +kernel
theorem dX5_makeRegular_91 : decode cX5_makeRegular 91 = .ok (.iadd, 1) := by decide +kernel
theorem dX5_makeRegular_92 : decode cX5_makeRegular 92 = .ok (.putfield 252, 3) := by decide +kernel
theorem dX5_makeRegular_95 : decode cX5_makeRegular 95 = .ok (.return_, 1) := by decide +kernel
theorem dX5_allowsSetting_0 : decode cX5_allowsSetting 0 = .ok (.iload_n 1, 1) := by decide +kernel
theorem dX5_allowsSetting_1 : decode cX5_allowsSetting 1 = .ok (.tableswitch 79 0 4 #[35, 79, 79, 41, 60], 35) := by decide +kernel
theorem dX5_allowsSetting_36 : decode cX5_allowsSetting 36 = .ok (.aload_n 0, 1) := by decide +kernel
theorem dX5_allowsSetting_37 : decode cX5_allowsSetting 37 = .ok (.iload_n 2, 1) := by decide +kernel
theorem dX5_allowsSetting_38 : decode cX5_allowsSetting 38 = .ok (.invokevirtual 354, 3) := by decide +kernel
theorem dX5_allowsSetting_41 : decode cX5_allowsSetting 41 = .ok (.ireturn, 1) := by decide +kernel
theorem dX5_allowsSetting_42 : decode cX5_allowsSetting 42 = .ok (.iload_n 2, 1) := by decide +kernel
theorem dX5_allowsSetting_43 : decode cX5_allowsSetting 43 = .ok (.aload_n 0, 1) := by decide +kernel
theorem dX5_allowsSetting_44 : decode cX5_allowsSetting 44 = .ok (.getfield 10, 3) := by decide +kernel
theorem dX5_allowsSetting_47 : decode cX5_allowsSetting 47 = .ok (.getfield 162, 3) := by decide +kernel
theorem dX5_allowsSetting_50 : decode cX5_allowsSetting 50 = .ok (.iconst 4, 1) := by decide +kernel
theorem dX5_allowsSetting_51 : decode cX5_allowsSetting 51 = .ok (.iaload, 1) := by decide +kernel
theorem dX5_allowsSetting_52 : decode cX5_allowsSetting 52 = .ok (.if_icmp .gt 7, 3) := by decide +kernel
theorem dX5_allowsSetting_55 : decode cX5_allowsSetting 55 = .ok (.iconst 1, 1) := by decide +kernel
theorem dX5_allowsSetting_56 : decode cX5_allowsSetting 56 = .ok (.goto 4, 3) := by decide +kernel
theorem dX5_allowsSetting_59 : decode cX5_allowsSetting 59 = .ok (.iconst 0, 1) := by decide +kernel
theorem dX5_allowsSetting_60 : decode cX5_allowsSetting 60 = .ok (.ireturn, 1) := by decide +kernel
theorem dX5_allowsSetting_61 : decode cX5_allowsSetting 61 = .ok (.iload_n 2, 1) := by decide +kernel
theorem dX5_allowsSetting_62 : decode cX5_allowsSetting 62 = .ok (.aload_n 0, 1) := by decide +kernel
theorem dX5_allowsSetting_63 : decode cX5_allowsSetting 63 = .ok (.getfield 10, 3) := by decide +kernel
theorem dX5_allowsSetting_66 : decode cX5_allowsSetting 66 = .ok (.getfield 162, 3) := by decide +kernel
theorem dX5_allowsSetting_69 : decode cX5_allowsSetting 69 = .ok (.iconst 3, 1) := by decide +kernel
theorem dX5_allowsSetting_70 : decode cX5_allowsSetting 70 = .ok (.iaload, 1) := by decide +kernel
theorem dX5_allowsSetting_71 : decode cX5_allowsSetting 71 = .ok (.if_icmp .lt 7, 3) := by decide +kernel
theorem dX5_allowsSetting_74 : decode cX5_allowsSetting 74 = .ok (.iconst 1, 1) := by decide +kernel
theorem dX5_allowsSetting_75 : decode cX5_allowsSetting 75 = .ok (.goto 4, 3) := by decide +kernel
theorem dX5_allowsSetting_78 : decode cX5_allowsSetting 78 = .ok (.iconst 0, 1) := by decide +kernel
theorem dX5_allowsSetting_79 : decode cX5_allowsSetting 79 = .ok (.ireturn, 1) := by decide +kernel
theorem dX5_allowsSetting_80 : decode cX5_allowsSetting 80 = .ok (.iconst 1, 1) := by decide +kernel
theorem dX5_allowsSetting_81 : decode cX5_allowsSetting 81 = .ok (.ireturn, 1) := by decide +kernel
theorem dX5_allDaysCanBeCleaned_0 : decode cX5_allDaysCanBeCleaned 0 = .ok (.iconst 0, 1) := by decide +kernel
theorem dX5_allDaysCanBeCleaned_1 : decode cX5_allDaysCanBeCleaned 1 = .ok (.istore_n 2, 1) := by decide +kernel
theorem dX5_allDaysCanBeCleaned_2 : decode cX5_allDaysCanBeCleaned 2 = .ok (.iload_n 2, 1) := by decide +kernel
theorem dX5_allDaysCanBeCleaned_3 : decode cX5_allDaysCanBeCleaned 3 = .ok (.bipush 84, 2) := by decide +kernel
theorem dX5_allDaysCanBeCleaned_5 : decode cX5_allDaysCanBeCleaned 5 = .ok (.if_icmp .ge 34, 3) := by decide +kernel
theorem dX5_allDaysCanBeCleaned_8 : decode cX5_allDaysCanBeCleaned 8 = .ok (.aload_n 0, 1) := by decide +kernel
theorem dX5_allDaysCanBeCleaned_9 : decode cX5_allDaysCanBeCleaned 9 = .ok (.getfield 33, 3) := by decide +kernel
theorem dX5_allDaysCanBeCleaned_12 : decode cX5_allDaysCanBeCleaned 12 = .ok (.aload_n 0, 1) := by decide +kernel
theorem dX5_allDaysCanBeCleaned_13 : decode cX5_allDaysCanBeCleaned 13 = .ok (.getfield 10, 3) := by decide +kernel
theorem dX5_allDaysCanBeCleaned_16 : decode cX5_allDaysCanBeCleaned 16 = .ok (.iload_n 2, 1) := by decide +kernel
theorem dX5_allDaysCanBeCleaned_17 : decode cX5_allDaysCanBeCleaned 17 = .ok (.invokevirtual 233, 3) := by decide +kernel
theorem dX5_allDaysCanBeCleaned_20 : decode cX5_allDaysCanBeCleaned 20 = .ok (.aload_n 0, 1) := by decide +kernel
theorem dX5_allDaysCanBeCleaned_21 : decode cX5_allDaysCanBeCleaned 21 = .ok (.getfield 33, 3) := by decide +kernel
theorem dX5_allDaysCanBeCleaned_24 : decode cX5_allDaysCanBeCleaned 24 = .ok (.iload_n 1, 1) := by decide +kernel
theorem dX5_allDaysCanBeCleaned_25 : decode cX5_allDaysCanBeCleaned 25 = .ok (.invokevirtual 357, 3) := by decide +kernel
theorem dX5_allDaysCanBeCleaned_28 : decode cX5_allDaysCanBeCleaned 28 = .ok (.ifCond .ne 5, 3) := by decide +kernel
theorem dX5_allDaysCanBeCleaned_31 : decode cX5_allDaysCanBeCleaned 31 = .ok (.iconst 0, 1) := by decide +kernel
theorem dX5_allDaysCanBeCleaned_32 : decode cX5_allDaysCanBeCleaned 32 = .ok (.ireturn, 1) := by decide +kernel
theorem dX5_allDaysCanBeCleaned_33 : decode cX5_allDaysCanBeCleaned 33 = .ok (.iinc 2 1, 3) := by decide +kernel
theorem dX5_allDaysCanBeCleaned_36 : decode cX5_allDaysCanBeCleaned 36 = .ok (.goto (-34), 3) := by decide +kernel
theorem dX5_allDaysCanBeCleaned_39 : decode cX5_allDaysCanBeCleaned 39 = .ok (.iconst 1, 1) := by decide +kernel
theorem dX5_allDaysCanBeCleaned_40 : decode cX5_allDaysCanBeCleaned 40 = .ok (.ireturn, 1) := by decide +kernel
theorem dX5_commonNumber_0 : decode cX5_commonNumber 0 = .ok (.iload_n 1, 1) := by decide +kernel
theorem dX5_commonNumber_1 : decode cX5_commonNumber 1 = .ok (.tableswitch 64 0 5 #[39, 64, 44, 49, 54, 59], 39) := by decide +kernel
theorem dX5_commonNumber_40 : decode cX5_commonNumber 40 = .ok (.aload_n 0, 1) := by decide +kernel
theorem dX5_commonNumber_41 : decode cX5_commonNumber 41 = .ok (.getfield 360, 3) := by decide +kernel
theorem dX5_commonNumber_44 : decode cX5_commonNumber 44 = .ok (.ireturn, 1) := by decide +kernel
theorem dX5_commonNumber_45 : decode cX5_commonNumber 45 = .ok (.aload_n 0, 1) := by decide +kernel
theorem dX5_commonNumber_46 : decode cX5_commonNumber 46 = .ok (.getfield 363, 3) := by decide +kernel
theorem dX5_commonNumber_49 : decode cX5_commonNumber 49 = .ok (.ireturn, 1) := by decide +kernel
theorem dX5_commonNumber_50 : decode cX5_commonNumber 50 = .ok (.aload_n 0, 1) := by decide +kernel
theorem dX5_commonNumber_51 : decode cX5_commonNumber 51 = .ok (.getfield 366, 3) := by decide +kernel
theorem dX5_commonNumber_54 : decode cX5_commonNumber 54 = .ok (.ireturn, 1) := by decide +kernel
theorem dX5_commonNumber_55 : decode cX5_commonNumber 55 = .ok (.aload_n 0, 1) := by decide +kernel
theorem dX5_commonNumber_56 : decode cX5_commonNumber 56 = .ok (.getfield 262, 3) := by decide +kernel
theorem dX5_commonNumber_59 : decode cX5_commonNumber 59 = .ok (.ireturn, 1) := by decide +kernel
theorem dX5_commonNumber_60 : decode cX5_commonNumber 60 = .ok (.aload_n 0, 1) := by decide +kernel
theorem dX5_commonNumber_61 : decode cX5_commonNumber 61 = .ok (.getfield 342, 3) := by decide +kernel
theorem dX5_commonNumber_64 : decode cX5_commonNumber 64 = .ok (.ireturn, 1) := by decide +kernel
theorem dX5_commonNumber_65 : decode cX5_commonNumber 65 = .ok (.aload_n 0, 1) := by decide +kernel
theorem dX5_commonNumber_66 : decode cX5_commonNumber 66 = .ok (.getfield 141, 3) := by decide +kernel
theorem dX5_commonNumber_69 : decode cX5_commonNumber 69 = .ok (.ireturn, 1) := by decide +kernel
theorem dX5_saveState_0 : decode cX5_saveState 0 = .ok (.aload_n 0, 1) := by decide +kernel
theorem dX5_saveState_1 : decode cX5_saveState 1 = .ok (.getfield 199, 3) := by decide +kernel
theorem dX5_saveState_4 : decode cX5_saveState 4 = .ok (.bipush 6, 2) := by decide +kernel
theorem dX5_saveState_6 : decode cX5_saveState 6 = .ok (.if_icmp .lt 50, 3) := by decide +kernel
theorem dX5_saveState_9 : decode cX5_saveState 9 = .ok (.aload_n 0, 1) := by decide +kernel
theorem dX5_saveState_10 : decode cX5_saveState 10 = .ok (.getfield 19, 3) := by decide +kernel
theorem dX5_saveState_13 : decode cX5_saveState 13 = .ok (.iconst 0, 1) := by decide +kernel
theorem dX5_saveState_14 : decode cX5_saveState 14 = .ok (.aaload, 1) := by decide +kernel
theorem dX5_saveState_15 : decode cX5_saveState 15 = .ok (.astore_n 1, 1) := by decide +kernel
theorem dX5_saveState_16 : decode cX5_saveState 16 = .ok (.iconst 1, 1) := by decide +kernel
theorem dX5_saveState_17 : decode cX5_saveState 17 = .ok (.istore_n 2, 1) := by decide +kernel
theorem dX5_saveState_18 : decode cX5_saveState 18 = .ok (.iload_n 2, 1) := by decide +kernel
theorem dX5_saveState_19 : decode cX5_saveState 19 = .ok (.bipush 6, 2) := by decide +kernel
theorem dX5_saveState_21 : decode cX5_saveState 21 = .ok (.if_icmp .ge 23, 3) := by decide +kernel
theorem dX5_saveState_24 : decode cX5_saveState 24 = .ok (.aload_n 0, 1) := by decide +kernel
theorem dX5_saveState_25 : decode cX5_saveState 25 = .ok (.getfield 19, 3) := by decide +kernel
theorem dX5_saveState_28 : decode cX5_saveState 28 = .ok (.iload_n 2, 1) := by decide +kernel
theorem dX5_saveState_29 : decode cX5_saveState 29 = .ok (.iconst 1, 1) := by decide +kernel
theorem dX5_saveState_30 : decode cX5_saveState 30 = .ok (.isub, 1) := by decide +kernel
theorem dX5_saveState_31 : decode cX5_saveState 31 = .ok (.aload_n 0, 1) := by decide +kernel
theorem dX5_saveState_32 : decode cX5_saveState 32 = .ok (.getfield 19, 3) := by decide +kernel
theorem dX5_saveState_35 : decode cX5_saveState 35 = .ok (.iload_n 2, 1) := by decide +kernel
theorem dX5_saveState_36 : decode cX5_saveState 36 = .ok (.aaload, 1) := by decide +kernel
theorem dX5_saveState_37 : decode cX5_saveState 37 = .ok (.aastore, 1) := by decide +kernel
theorem dX5_saveState_38 : decode cX5_saveState 38 = .ok (.iinc 2 1, 3) := by decide +kernel
theorem dX5_saveState_41 : decode cX5_saveState 41 = .ok (.goto (-23), 3) := by decide +kernel
theorem dX5_saveState_44 : decode cX5_saveState 44 = .ok (.aload_n 0, 1) := by decide +kernel
theorem dX5_saveState_45 : decode cX5_saveState 45 = .ok (.getfield 19, 3) := by decide +kernel
theorem dX5_saveState_48 : decode cX5_saveState 48 = .ok (.iconst 5, 1) := by decide +kernel
theorem dX5_saveState_49 : decode cX5_saveState 49 = .ok (.aload_n 1, 1) := by decide +kernel
theorem dX5_saveState_50 : decode cX5_saveState 50 = .ok (.aastore, 1) := by decide +kernel
theorem dX5_saveState_51 : decode cX5_saveState 51 = .ok (.aload_n 0, 1) := by decide +kernel
theorem dX5_saveState_52 : decode cX5_saveState 52 = .ok (.iconst 5, 1) := by decide +kernel
theorem dX5_saveState_53 : decode cX5_saveState 53 = .ok (.putfield 199, 3) := by decide +kernel
theorem dX5_saveState_56 : decode cX5_saveState 56 = .ok (.aload_n 0, 1) := by decide +kernel
theorem dX5_saveState_57 : decode cX5_saveState 57 = .ok (.getfield 19, 3) := by decide +kernel
theorem dX5_saveState_60 : decode cX5_saveState 60 = .ok (.aload_n 0, 1) := by decide +kernel
theorem dX5_saveState_61 : decode cX5_saveState 61 = .ok (.getfield 199, 3) := by decide +kernel
theorem dX5_saveState_64 : decode cX5_saveState 64 = .ok (.aaload, 1) := by decide +kernel
theorem dX5_saveState_65 : decode cX5_saveState 65 = .ok (.aload_n 0, 1) := by decide +kernel
theorem dX5_saveState_66 : decode cX5_saveState 66 = .ok (.getfield 10, 3) := by decide +kernel
theorem dX5_saveState_69 : decode cX5_saveState 69 = .ok (.invokevirtual 204, 3) := by decide +kernel
theorem dX5_saveState_72 : decode cX5_saveState 72 = .ok (.aload_n 0, 1) := by decide +kernel
theorem dX5_saveState_73 : decode cX5_saveState 73 = .ok (.dup, 1) := by decide +kernel
theorem dX5_saveState_74 : decode cX5_saveState 74 = .ok (.getfield 199, 3) := by decide +kernel
theorem dX5_saveState_77 : decode cX5_saveState 77 = .ok (.iconst 1, 1) := by decide +kernel
theorem dX5_saveState_78 : decode cX5_saveState 78 = .ok (.iadd, 1) := by decide +kernel
theorem dX5_saveState_79 : decode cX5_saveState 79 = .ok (.putfield 199, 3) := by decide +kernel
theorem dX5_saveState_82 : decode cX5_saveState 82 = .ok (.return_, 1) := by decide +kernel
theorem dJ6_bitCount_0f7a4_0 : decode cJ6_bitCount_0f7a4 0 = .ok (.iload_n 0, 1) := by decide +kernel
theorem dJ6_bitCount_0f7a4_1 : decode cJ6_bitCount_0f7a4 1 = .ok (.iload_n 0, 1) := by decide +kernel
theorem dJ6_bitCount_0f7a4_2 : decode cJ6_bitCount_0f7a4 2 = .ok (.iconst 1, 1) := by decide +kernel
theorem dJ6_bitCount_0f7a4_3 : decode cJ6_bitCount_0f7a4 3 = .ok (.iushr, 1) := by decide +kernel
theorem dJ6_bitCount_0f7a4_4 : decode cJ6_bitCount_0f7a4 4 = .ok (.ldc_w 265, 3) := by decide +kernel
theorem dJ6_bitCount_0f7a4_7 : decode cJ6_bitCount_0f7a4 7 = .ok (.iand, 1) := by decide +kernel
theorem dJ6_bitCount_0f7a4_8 : decode cJ6_bitCount_0f7a4 8 = .ok (.isub, 1) := by decide +kernel
theorem dJ6_bitCount_0f7a4_9 : decode cJ6_bitCount_0f7a4 9 = .ok (.istore_n 0, 1) := by decide +kernel
theorem dJ6_bitCount_0f7a4_10 : decode cJ6_bitCount_0f7a4 10 = .ok (.iload_n 0, 1) := by decide +kernel
theorem dJ6_bitCount_0f7a4_11 : decode cJ6_bitCount_0f7a4 11 = .ok (.ldc_w 266, 3) := by decide +kernel
theorem dJ6_bitCount_0f7a4_14 : decode cJ6_bitCount_0f7a4 14 = .ok (.iand, 1) := by decide +kernel
theorem dJ6_bitCount_0f7a4_15 : decode cJ6_bitCount_0f7a4 15 = .ok (.iload_n 0, 1) := by decide +kernel
theorem dJ6_bitCount_0f7a4_16 : decode cJ6_bitCount_0f7a4 16 = .ok (.iconst 2, 1) := by decide +kernel
theorem dJ6_bitCount_0f7a4_17 : decode cJ6_bitCount_0f7a4 17 = .ok (.iushr, 1) := by decide +kernel
theorem dJ6_bitCount_0f7a4_18 : decode cJ6_bitCount_0f7a4 18 = .ok (.ldc_w 266, 3) := by decide +kernel
theorem dJ6_bitCount_0f7a4_21 : decode cJ6_bitCount_0f7a4 21 = .ok (.iand, 1) := by decide +kernel
theorem dJ6_bitCount_0f7a4_22 : decode cJ6_bitCount_0f7a4 22 = .ok (.iadd, 1) := by decide +kernel
theorem dJ6_bitCount_0f7a4_23 : decode cJ6_bitCount_0f7a4 23 = .ok (.istore_n 0, 1) := by decide +kernel
theorem dJ6_bitCount_0f7a4_24 : decode cJ6_bitCount_0f7a4 24 = .ok (.iload_n 0, 1) := by decide +kernel
theorem dJ6_bitCount_0f7a4_25 : decode cJ6_bitCount_0f7a4 25 = .ok (.iload_n 0, 1) := by decide +kernel
theorem dJ6_bitCount_0f7a4_26 : decode cJ6_bitCount_0f7a4 26 = .ok (.iconst 4, 1) := by decide +kernel
theorem dJ6_bitCount_0f7a4_27 : decode cJ6_bitCount_0f7a4 27 = .ok (.iushr, 1) := by decide +kernel
theorem dJ6_bitCount_0f7a4_28 : decode cJ6_bitCount_0f7a4 28 = .ok (.iadd, 1) := by decide +kernel
theorem dJ6_bitCount_0f7a4_29 : decode cJ6_bitCount_0f7a4 29 = .ok (.ldc_w 267, 3) := by decide +kernel
theorem dJ6_bitCount_0f7a4_32 : decode cJ6_bitCount_0f7a4 32 = .ok (.iand, 1) := by decide +kernel
theorem dJ6_bitCount_0f7a4_33 : decode cJ6_bitCount_0f7a4 33 = .ok (.istore_n 0, 1) := by decide +kernel
theorem dJ6_bitCount_0f7a4_34 : decode cJ6_bitCount_0f7a4 34 = .ok (.iload_n 0, 1) := by decide +kernel
theorem dJ6_bitCount_0f7a4_35 : decode cJ6_bitCount_0f7a4 35 = .ok (.iload_n 0, 1) := by decide +kernel
theorem dJ6_bitCount_0f7a4_36 : decode cJ6_bitCount_0f7a4 36 = .ok (.bipush 8, 2) := by decide +kernel
theorem dJ6_bitCount_0f7a4_38 : decode cJ6_bitCount_0f7a4 38 = .ok (.iushr, 1) := by decide +kernel
theorem dJ6_bitCount_0f7a4_39 : decode cJ6_bitCount_0f7a4 39 = .ok (.iadd, 1) := by decide +kernel
theorem dJ6_bitCount_0f7a4_40 : decode cJ6_bitCount_0f7a4 40 = .ok (.istore_n 0, 1) := by decide +kernel
theorem dJ6_bitCount_0f7a4_41 : decode cJ6_bitCount_0f7a4 41 = .ok (.iload_n 0, 1) := by decide +kernel
theorem dJ6_bitCount_0f7a4_42 : decode cJ6_bitCount_0f7a4 42 = .ok (.iload_n 0, 1) := by decide +kernel
theorem dJ6_bitCount_0f7a4_43 : decode cJ6_bitCount_0f7a4 43 = .ok (.bipush 16, 2) := by decide +kernel
theorem dJ6_bitCount_0f7a4_45 : decode cJ6_bitCount_0f7a4 45 = .ok (.iushr, 1) := by decide +kernel
theorem dJ6_bitCount_0f7a4_46 : decode cJ6_bitCount_0f7a4 46 = .ok (.iadd, 1) := by decide +kernel
theorem dJ6_bitCount_0f7a4_47 : decode cJ6_bitCount_0f7a4 47 = .ok (.istore_n 0, 1) := by decide +kernel
theorem dJ6_bitCount_0f7a4_48 : decode cJ6_bitCount_0f7a4 48 = .ok (.iload_n 0, 1) := by decide +kernel
theorem dJ6_bitCount_0f7a4_49 : decode cJ6_bitCount_0f7a4 49 = .ok (.bipush 63, 2) := by decide +kernel
theorem dJ6_bitCount_0f7a4_51 : decode cJ6_bitCount_0f7a4 51 = .ok (.iand, 1) := by decide +kernel
theorem dJ6_bitCount_0f7a4_52 : decode cJ6_bitCount_0f7a4 52 = .ok (.ireturn, 1) := by decide +kernel
theorem dJ9_min_7cf53_0 : decode cJ9_min_7cf53 0 = .ok (.iload_n 0, 1) := by decide +kernel
theorem dJ9_min_7cf53_1 : decode cJ9_min_7cf53 1 = .ok (.iload_n 1, 1) := by decide +kernel
theorem dJ9_min_7cf53_2 : decode cJ9_min_7cf53 2 = .ok (.if_icmp .gt 7, 3) := by decide +kernel
theorem dJ9_min_7cf53_5 : decode cJ9_min_7cf53 5 = .ok (.iload_n 0, 1) := by decide +kernel
theorem dJ9_min_7cf53_6 : decode cJ9_min_7cf53 6 = .ok (.goto 4, 3) := by decide +kernel
theorem dJ9_min_7cf53_9 : decode cJ9_min_7cf53 9 = .ok (.iload_n 1, 1) := by decide +kernel
theorem dJ9_min_7cf53_10 : decode cJ9_min_7cf53 10 = .ok (.ireturn, 1) := by decide +kernel
