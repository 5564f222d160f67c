theorem dX6_init_0 : decode cX6_init 0 = .ok (.aload_n 0, 1) := by decide +kernel
theorem dX6_init_1 : decode cX6_init 1 = .ok (.invokespecial 1, 3) := by decide +kernel
theorem dX6_init_4 : decode cX6_init 4 = .ok (.aload_n 0, 1) := by decide +kernel
theorem dX6_init_5 : decode cX6_init 5 = .ok (.sipush 177, 3) := by decide +kernel
theorem dX6_init_8 : decode cX6_init 8 = .ok (.newarray .int, 2) := by decide +kernel
theorem dX6_init_10 : decode cX6_init 10 = .ok (.putfield 7, 3) := by decide +kernel
theorem dX6_init_13 : decode cX6_init 13 = .ok (.aload_n 0, 1) := by decide +kernel
theorem dX6_init_14 : decode cX6_init 14 = .ok (.sipush 1062, 3) := by decide +kernel
theorem dX6_init_17 : decode cX6_init 17 = .ok (.newarray .int, 2) := by decide +kernel
theorem dX6_init_19 : decode cX6_init 19 = .ok (.putfield 13, 3) := by decide +kernel
theorem dX6_init_22 : decode cX6_init 22 = .ok (.aload_n 0, 1) := by decide +kernel
theorem dX6_init_23 : decode cX6_init 23 = .ok (.sipush 177, 3) := by decide +kernel
theorem dX6_init_26 : decode cX6_init 26 = .ok (.newarray .int, 2) := by decide +kernel
theorem dX6_init_28 : decode cX6_init 28 = .ok (.putfield 16, 3) := by decide +kernel
theorem dX6_init_31 : decode cX6_init 31 = .ok (.aload_n 0, 1) := by decide +kernel
theorem dX6_init_32 : decode cX6_init 32 = .ok (.bipush 24, 2) := by decide +kernel
theorem dX6_init_34 : decode cX6_init 34 = .ok (.newarray .int, 2) := by decide +kernel
theorem dX6_init_36 : decode cX6_init 36 = .ok (.putfield 19, 3) := by decide +kernel
theorem dX6_init_39 : decode cX6_init 39 = .ok (.aload_n 0, 1) := by decide +kernel
theorem dX6_init_40 : decode cX6_init 40 = .ok (.bipush 24, 2) := by decide +kernel
theorem dX6_init_42 : decode cX6_init 42 = .ok (.newarray .int, 2) := by decide +kernel
theorem dX6_init_44 : decode cX6_init 44 = .ok (.putfield 22, 3) := by decide +kernel
theorem dX6_init_47 : decode cX6_init 47 = .ok (.aload_n 0, 1) := by decide +kernel
theorem dX6_init_48 : decode cX6_init 48 = .ok (.bipush 24, 2) := by decide +kernel
theorem dX6_init_50 : decode cX6_init 50 = .ok (.newarray .int, 2) := by decide +kernel
theorem dX6_init_52 : decode cX6_init 52 = .ok (.putfield 25, 3) := by decide +kernel
theorem dX6_init_55 : decode cX6_init 55 = .ok (.aload_n 0, 1) := by decide +kernel
theorem dX6_init_56 : decode cX6_init 56 = .ok (.bipush 24, 2) := by decide +kernel
theorem dX6_init_58 : decode cX6_init 58 = .ok (.newarray .int, 2) := by decide +kernel
theorem dX6_init_60 : decode cX6_init 60 = .ok (.putfield 28, 3) := by decide +kernel
theorem dX6_init_63 : decode cX6_init 63 = .ok (.aload_n 0, 1) := by decide +kernel
theorem dX6_init_64 : decode cX6_init 64 = .ok (.bipush 60, 2) := by decide +kernel
theorem dX6_init_66 : decode cX6_init 66 = .ok (.newarray .int, 2) := by decide +kernel
theorem dX6_init_68 : decode cX6_init 68 = .ok (.putfield 31, 3) := by decide +kernel
theorem dX6_init_71 : decode cX6_init 71 = .ok (.aload_n 0, 1) := by decide +kernel
theorem dX6_init_72 : decode cX6_init 72 = .ok (.bipush 60, 2) := by decide +kernel
theorem dX6_init_74 : decode cX6_init 74 = .ok (.newarray .int, 2) := by decide +kernel
theorem dX6_init_76 : decode cX6_init 76 = .ok (.putfield 34, 3) := by decide +kernel
theorem dX6_init_79 : decode cX6_init 79 = .ok (.aload_n 0, 1) := by decide +kernel
theorem dX6_init_80 : decode cX6_init 80 = .ok (.getfield 7, 3) := by decide +kernel
theorem dX6_init_83 : decode cX6_init 83 = .ok (.iconst 0, 1) := by decide +kernel
theorem dX6_init_84 : decode cX6_init 84 = .ok (.iconst 1, 1) := by decide +kernel
theorem dX6_init_85 : decode cX6_init 85 = .ok (.iastore, 1) := by decide +kernel
theorem dX6_init_86 : decode cX6_init 86 = .ok (.aload_n 0, 1) := by decide +kernel
theorem dX6_init_87 : decode cX6_init 87 = .ok (.getfield 7, 3) := by decide +kernel
theorem dX6_init_90 : decode cX6_init 90 = .ok (.iconst 1, 1) := by decide +kernel
theorem dX6_init_91 : decode cX6_init 91 = .ok (.bipush 20, 2) := by decide +kernel
theorem dX6_init_93 : decode cX6_init 93 = .ok (.iastore, 1) := by decide +kernel
theorem dX6_init_94 : decode cX6_init 94 = .ok (.aload_n 0, 1) := by decide +kernel
theorem dX6_init_95 : decode cX6_init 95 = .ok (.getfield 7, 3) := by decide +kernel
theorem dX6_init_98 : decode cX6_init 98 = .ok (.iconst 2, 1) := by decide +kernel
theorem dX6_init_99 : decode cX6_init 99 = .ok (.bipush 50, 2) := by decide +kernel
theorem dX6_init_101 : decode cX6_init 101 = .ok (.iastore, 1) := by decide +kernel
theorem dX6_init_102 : decode cX6_init 102 = .ok (.aload_n 0, 1) := by decide +kernel
theorem dX6_init_103 : decode cX6_init 103 = .ok (.getfield 7, 3) := by decide +kernel
theorem dX6_init_106 : decode cX6_init 106 = .ok (.iconst 4, 1) := by decide +kernel
theorem dX6_init_107 : decode cX6_init 107 = .ok (.bipush 11, 2) := by decide +kernel
theorem dX6_init_109 : decode cX6_init 109 = .ok (.iastore, 1) := by decide +kernel
theorem dX6_init_110 : decode cX6_init 110 = .ok (.aload_n 0, 1) := by decide +kernel
theorem dX6_init_111 : decode cX6_init 111 = .ok (.getfield 7, 3) := by decide +kernel
theorem dX6_init_114 : decode cX6_init 114 = .ok (.iconst 5, 1) := by decide +kernel
theorem dX6_init_115 : decode cX6_init 115 = .ok (.sipush 1000, 3) := by decide +kernel
theorem dX6_init_118 : decode cX6_init 118 = .ok (.iastore, 1) := by decide +kernel
theorem dX6_init_119 : decode cX6_init 119 = .ok (.aload_n 0, 1) := by decide +kernel
theorem dX6_init_120 : decode cX6_init 120 = .ok (.getfield 7, 3) := by decide +kernel
theorem dX6_init_123 : decode cX6_init 123 = .ok (.bipush 6, 2) := by decide +kernel
theorem dX6_init_125 : decode cX6_init 125 = .ok (.sipush 1500, 3) := by decide +kernel
theorem dX6_init_128 : decode cX6_init 128 = .ok (.iastore, 1) := by decide +kernel
theorem dX6_init_129 : decode cX6_init 129 = .ok (.aload_n 0, 1) := by decide +kernel
theorem dX6_init_130 : decode cX6_init 130 = .ok (.getfield 7, 3) := by decide +kernel
theorem dX6_init_133 : decode cX6_init 133 = .ok (.bipush 7, 2) := by decide +kernel
theorem dX6_init_135 : decode cX6_init 135 = .ok (.sipush 2500, 3) := by decide +kernel
theorem dX6_init_138 : decode cX6_init 138 = .ok (.iastore, 1) := by decide +kernel
theorem dX6_init_139 : decode cX6_init 139 = .ok (.return_, 1) := by decide +kernel
theorem dX6_thrown_0 : decode cX6_thrown 0 = .ok (.aload_n 0, 1) := by decide +kernel
theorem dX6_thrown_1 : decode cX6_thrown 1 = .ok (.getfield 37, 3) := by decide +kernel
theorem dX6_thrown_4 : decode cX6_thrown 4 = .ok (.ireturn, 1) := by decide +kernel
theorem dX6_fails_0 : decode cX6_fails 0 = .ok (.aload_n 0, 1) := by decide +kernel
theorem dX6_fails_1 : decode cX6_fails 1 = .ok (.iload_n 1, 1) := by decide +kernel
theorem dX6_fails_2 : decode cX6_fails 2 = .ok (.putfield 37, 3) := by decide +kernel
theorem dX6_fails_5 : decode cX6_fails 5 = .ok (.iconst 0, 1) := by decide +kernel
theorem dX6_fails_6 : decode cX6_fails 6 = .ok (.ireturn, 1) := by decide +kernel
theorem dX6_in_0 : decode cX6_in 0 = .ok (.iload_n 0, 1) := by decide +kernel
theorem dX6_in_1 : decode cX6_in 1 = .ok (.iload_n 1, 1) := by decide +kernel
theorem dX6_in_2 : decode cX6_in 2 = .ok (.if_icmp .lt 12, 3) := by decide +kernel
theorem dX6_in_5 : decode cX6_in 5 = .ok (.iload_n 0, 1) := by decide +kernel
theorem dX6_in_6 : decode cX6_in 6 = .ok (.iload_n 2, 1) := by decide +kernel
theorem dX6_in_7 : decode cX6_in 7 = .ok (.if_icmp .gt 7, 3) := by decide +kernel
theorem dX6_in_10 : decode cX6_in 10 = .ok (.iconst 1, 1) := by decide +kernel
theorem dX6_in_11 : decode cX6_in 11 = .ok (.goto 4, 3) := by decide +kernel
theorem dX6_in_14 : decode cX6_in 14 = .ok (.iconst 0, 1) := by decide +kernel
theorem dX6_in_15 : decode cX6_in 15 = .ok (.ireturn, 1) := by decide +kernel
theorem dX6_isHall_0 : decode cX6_isHall 0 = .ok (.iload_n 0, 1) := by decide +kernel
theorem dX6_isHall_1 : decode cX6_isHall 1 = .ok (.iconst 0, 1) := by decide +kernel
theorem dX6_isHall_2 : decode cX6_isHall 2 = .ok (.iconst 2, 1) := by decide +kernel
theorem dX6_isHall_3 : decode cX6_isHall 3 = .ok (.invokestatic 41, 3) := by decide +kernel
theorem dX6_isHall_6 : decode cX6_isHall 6 = .ok (.ireturn, 1) := by decide +kernel
theorem dX6_isDay_0 : decode cX6_isDay 0 = .ok (.iload_n 0, 1) := by decide +kernel
theorem dX6_isDay_1 : decode cX6_isDay 1 = .ok (.iconst 0, 1) := by decide +kernel
theorem dX6_isDay_2 : decode cX6_isDay 2 = .ok (.bipush 83, 2) := by decide +kernel
theorem dX6_isDay_4 : decode cX6_isDay 4 = .ok (.invokestatic 41, 3) := by decide +kernel
theorem dX6_isDay_7 : decode cX6_isDay 7 = .ok (.ireturn, 1) := by decide +kernel
theorem dX6_areHours_0 : decode cX6_areHours 0 = .ok (.iload_n 0, 1) := by decide +kernel
theorem dX6_areHours_1 : decode cX6_areHours 1 = .ok (.iconst 0, 1) := by decide +kernel
theorem dX6_areHours_2 : decode cX6_areHours 2 = .ok (.bipush 23, 2) := by decide +kernel
theorem dX6_areHours_4 : decode cX6_areHours 4 = .ok (.invokestatic 41, 3) := by decide +kernel
theorem dX6_areHours_7 : decode cX6_areHours 7 = .ok (.ifCond .eq 19, 3) := by decide +kernel
theorem dX6_areHours_10 : decode cX6_areHours 10 = .ok (.iload_n 1, 1) := by decide +kernel
theorem dX6_areHours_11 : decode cX6_areHours 11 = .ok (.iload_n 0, 1) := by decide +kernel
theorem dX6_areHours_12 : decode cX6_areHours 12 = .ok (.iconst 1, 1) := by decide +kernel
theorem dX6_areHours_13 : decode cX6_areHours 13 = .ok (.iadd, 1) := by decide +kernel
theorem dX6_areHours_14 : decode cX6_areHours 14 = .ok (.bipush 24, 2) := by decide +kernel
theorem dX6_areHours_16 : decode cX6_areHours 16 = .ok (.invokestatic 41, 3) := by decide +kernel
theorem dX6_areHours_19 : decode cX6_areHours 19 = .ok (.ifCond .eq 7, 3) := by decide +kernel
theorem dX6_areHours_22 : decode cX6_areHours 22 = .ok (.iconst 1, 1) := by decide +kernel
theorem dX6_areHours_23 : decode cX6_areHours 23 = .ok (.goto 4, 3) := by decide +kernel
theorem dX6_areHours_26 : decode cX6_areHours 26 = .ok (.iconst 0, 1) := by decide +kernel
theorem dX6_areHours_27 : decode cX6_areHours 27 = .ok (.ireturn, 1) := by decide +kernel
theorem dX6_isWho_0 : decode cX6_isWho 0 = .ok (.iload_n 0, 1) := by decide +kernel
theorem dX6_isWho_1 : decode cX6_isWho 1 = .ok (.iconst 1, 1) := by decide +kernel
theorem dX6_isWho_2 : decode cX6_isWho 2 = .ok (.bipush 9, 2) := by decide +kernel
theorem dX6_isWho_4 : decode cX6_isWho 4 = .ok (.invokestatic 41, 3) := by decide +kernel
theorem dX6_isWho_7 : decode cX6_isWho 7 = .ok (.ifCond .eq 17, 3) := by decide +kernel
theorem dX6_isWho_10 : decode cX6_isWho 10 = .ok (.iload_n 1, 1) := by decide +kernel
theorem dX6_isWho_11 : decode cX6_isWho 11 = .ok (.iconst 0, 1) := by decide +kernel
theorem dX6_isWho_12 : decode cX6_isWho 12 = .ok (.bipush 19, 2) := by decide +kernel
theorem dX6_isWho_14 : decode cX6_isWho 14 = .ok (.invokestatic 41, 3) := by decide +kernel
theorem dX6_isWho_17 : decode cX6_isWho 17 = .ok (.ifCond .eq 7, 3) := by decide +kernel
theorem dX6_isWho_20 : decode cX6_isWho 20 = .ok (.iconst 1, 1) := by decide +kernel
theorem dX6_isWho_21 : decode cX6_isWho 21 = .ok (.goto 4, 3) := by decide +kernel
theorem dX6_isWho_24 : decode cX6_isWho 24 = .ok (.iconst 0, 1) := by decide +kernel
theorem dX6_isWho_25 : decode cX6_isWho 25 = .ok (.ireturn, 1) := by decide +kernel
theorem dX6_weekly_0 : decode cX6_weekly 0 = .ok (.aload_n 0, 1) := by decide +kernel
theorem dX6_weekly_1 : decode cX6_weekly 1 = .ok (.getfield 7, 3) := by decide +kernel
theorem dX6_weekly_4 : decode cX6_weekly 4 = .ok (.bipush 12, 2) := by decide +kernel
theorem dX6_weekly_6 : decode cX6_weekly 6 = .ok (.bipush 10, 2) := by decide +kernel
theorem dX6_weekly_8 : decode cX6_weekly 8 = .ok (.iload_n 1, 1) := by decide +kernel
theorem dX6_weekly_9 : decode cX6_weekly 9 = .ok (.imul, 1) := by decide +kernel
theorem dX6_weekly_10 : decode cX6_weekly 10 = .ok (.iadd, 1) := by decide +kernel
theorem dX6_weekly_11 : decode cX6_weekly 11 = .ok (.iload_n 2, 1) := by decide +kernel
theorem dX6_weekly_12 : decode cX6_weekly 12 = .ok (.iadd, 1) := by decide +kernel
theorem dX6_weekly_13 : decode cX6_weekly 13 = .ok (.iaload, 1) := by decide +kernel
theorem dX6_weekly_14 : decode cX6_weekly 14 = .ok (.ireturn, 1) := by decide +kernel
theorem dX6_dated_0 : decode cX6_dated 0 = .ok (.aload_n 0, 1) := by decide +kernel
theorem dX6_dated_1 : decode cX6_dated 1 = .ok (.getfield 7, 3) := by decide +kernel
theorem dX6_dated_4 : decode cX6_dated 4 = .ok (.bipush 93, 2) := by decide +kernel
theorem dX6_dated_6 : decode cX6_dated 6 = .ok (.bipush 7, 2) := by decide +kernel
theorem dX6_dated_8 : decode cX6_dated 8 = .ok (.iload_n 1, 1) := by decide +kernel
theorem dX6_dated_9 : decode cX6_dated 9 = .ok (.imul, 1) := by decide +kernel
theorem dX6_dated_10 : decode cX6_dated 10 = .ok (.iadd, 1) := by decide +kernel
theorem dX6_dated_11 : decode cX6_dated 11 = .ok (.iload_n 2, 1) := by decide +kernel
theorem dX6_dated_12 : decode cX6_dated 12 = .ok (.iadd, 1) := by decide +kernel
theorem dX6_dated_13 : decode cX6_dated 13 = .ok (.iaload, 1) := by decide +kernel
theorem dX6_dated_14 : decode cX6_dated 14 = .ok (.ireturn, 1) := by decide +kernel
theorem dX6_save_0 : decode cX6_save 0 = .ok (.aload_n 0, 1) := by decide +kernel
theorem dX6_save_1 : decode cX6_save 1 = .ok (.getfield 45, 3) := by decide +kernel
theorem dX6_save_4 : decode cX6_save 4 = .ok (.bipush 6, 2) := by decide +kernel
theorem dX6_save_6 : decode cX6_save 6 = .ok (.if_icmp .ne 44, 3) := by decide +kernel
theorem dX6_save_9 : decode cX6_save 9 = .ok (.iconst 0, 1) := by decide +kernel
theorem dX6_save_10 : decode cX6_save 10 = .ok (.istore_n 1, 1) := by decide +kernel
theorem dX6_save_11 : decode cX6_save 11 = .ok (.iload_n 1, 1) := by decide +kernel
theorem dX6_save_12 : decode cX6_save 12 = .ok (.sipush 885, 3) := by decide +kernel
theorem dX6_save_15 : decode cX6_save 15 = .ok (.if_icmp .ge 25, 3) := by decide +kernel
theorem dX6_save_18 : decode cX6_save 18 = .ok (.aload_n 0, 1) := by decide +kernel
theorem dX6_save_19 : decode cX6_save 19 = .ok (.getfield 13, 3) := by decide +kernel
theorem dX6_save_22 : decode cX6_save 22 = .ok (.iload_n 1, 1) := by decide +kernel
theorem dX6_save_23 : decode cX6_save 23 = .ok (.aload_n 0, 1) := by decide +kernel
theorem dX6_save_24 : decode cX6_save 24 = .ok (.getfield 13, 3) := by decide +kernel
theorem dX6_save_27 : decode cX6_save 27 = .ok (.iload_n 1, 1) := by decide +kernel
theorem dX6_save_28 : decode cX6_save 28 = .ok (.sipush 177, 3) := by decide +kernel
theorem dX6_save_31 : decode cX6_save 31 = .ok (.iadd, 1) := by decide +kernel
theorem dX6_save_32 : decode cX6_save 32 = .ok (.iaload, 1) := by decide +kernel
theorem dX6_save_33 : decode cX6_save 33 = .ok (.iastore, 1) := by decide +kernel
theorem dX6_save_34 : decode cX6_save 34 = .ok (.iinc 1 1, 3) := by decide +kernel
theorem dX6_save_37 : decode cX6_save 37 = .ok (.goto (-26), 3) := by decide +kernel
theorem dX6_save_40 : decode cX6_save 40 = .ok (.aload_n 0, 1) := by decide +kernel
theorem dX6_save_41 : decode cX6_save 41 = .ok (.dup, 1) := by decide +kernel
theorem dX6_save_42 : decode cX6_save 42 = .ok (.getfield 45, 3) := by decide +kernel
theorem dX6_save_45 : decode cX6_save 45 = .ok (.iconst 1, 1) := by decide +kernel
theorem dX6_save_46 : decode cX6_save 46 = .ok (.isub, 1) := by decide +kernel
theorem dX6_save_47 : decode cX6_save 47 = .ok (.putfield 45, 3) := by decide +kernel
theorem dX6_save_50 : decode cX6_save 50 = .ok (.iconst 0, 1) := by decide +kernel
theorem dX6_save_51 : decode cX6_save 51 = .ok (.istore_n 1, 1) := by decide +kernel
theorem dX6_save_52 : decode cX6_save 52 = .ok (.iload_n 1, 1) := by decide +kernel
theorem dX6_save_53 : decode cX6_save 53 = .ok (.sipush 177, 3) := by decide +kernel
theorem dX6_save_56 : decode cX6_save 56 = .ok (.if_icmp .ge 30, 3) := by decide +kernel
theorem dX6_save_59 : decode cX6_save 59 = .ok (.aload_n 0, 1) := by decide +kernel
theorem dX6_save_60 : decode cX6_save 60 = .ok (.getfield 13, 3) := by decide +kernel
theorem dX6_save_63 : decode cX6_save 63 = .ok (.sipush 177, 3) := by decide +kernel
theorem dX6_save_66 : decode cX6_save 66 = .ok (.aload_n 0, 1) := by decide +kernel
theorem dX6_save_67 : decode cX6_save 67 = .ok (.getfield 45, 3) := by decide +kernel
theorem dX6_save_70 : decode cX6_save 70 = .ok (.imul, 1) := by decide +kernel
theorem dX6_save_71 : decode cX6_save 71 = .ok (.iload_n 1, 1) := by decide +kernel
theorem dX6_save_72 : decode cX6_save 72 = .ok (.iadd, 1) := by decide +kernel
theorem dX6_save_73 : decode cX6_save 73 = .ok (.aload_n 0, 1) := by decide +kernel
theorem dX6_save_74 : decode cX6_save 74 = .ok (.getfield 7, 3) := by decide +kernel
theorem dX6_save_77 : decode cX6_save 77 = .ok (.iload_n 1, 1) := by decide +kernel
theorem dX6_save_78 : decode cX6_save 78 = .ok (.iaload, 1) := by decide +kernel
theorem dX6_save_79 : decode cX6_save 79 = .ok (.iastore, 1) := by decide +kernel
theorem dX6_save_80 : decode cX6_save 80 = .ok (.iinc 1 1, 3) := by decide +kernel
theorem dX6_save_83 : decode cX6_save 83 = .ok (.goto (-31), 3) := by decide +kernel
theorem dX6_save_86 : decode cX6_save 86 = .ok (.aload_n 0, 1) := by decide +kernel
theorem dX6_save_87 : decode cX6_save 87 = .ok (.dup, 1) := by decide +kernel
theorem dX6_save_88 : decode cX6_save 88 = .ok (.getfield 45, 3) := by decide +kernel
theorem dX6_save_91 : decode cX6_save 91 = .ok (.iconst 1, 1) := by decide +kernel
theorem dX6_save_92 : decode cX6_save 92 = .ok (.iadd, 1) := by decide +kernel
theorem dX6_save_93 : decode cX6_save 93 = .ok (.putfield 45, 3) := by decide +kernel
theorem dX6_save_96 : decode cX6_save 96 = .ok (.return_, 1) := by decide +kernel
theorem dX6_allLets_0 : decode cX6_allLets 0 = .ok (.aload_n 0, 1) := by decide +kernel
theorem dX6_allLets_1 : decode cX6_allLets 1 = .ok (.getfield 7, 3) := by decide +kernel
theorem dX6_allLets_4 : decode cX6_allLets 4 = .ok (.bipush 11, 2) := by decide +kernel
theorem dX6_allLets_6 : decode cX6_allLets 6 = .ok (.iaload, 1) := by decide +kernel
theorem dX6_allLets_7 : decode cX6_allLets 7 = .ok (.aload_n 0, 1) := by decide +kernel
theorem dX6_allLets_8 : decode cX6_allLets 8 = .ok (.getfield 7, 3) := by decide +kernel
theorem dX6_allLets_11 : decode cX6_allLets 11 = .ok (.bipush 92, 2) := by decide +kernel
theorem dX6_allLets_13 : decode cX6_allLets 13 = .ok (.iaload, 1) := by decide +kernel
theorem dX6_allLets_14 : decode cX6_allLets 14 = .ok (.iadd, 1) := by decide +kernel
theorem dX6_allLets_15 : decode cX6_allLets 15 = .ok (.ireturn, 1) := by decide +kernel
theorem dX6_undo_0 : decode cX6_undo 0 = .ok (.aload_n 0, 1) := by decide +kernel
theorem dX6_undo_1 : decode cX6_undo 1 = .ok (.iconst 0, 1) := by decide +kernel
theorem dX6_undo_2 : decode cX6_undo 2 = .ok (.putfield 37, 3) := by decide +kernel
theorem dX6_undo_5 : decode cX6_undo 5 = .ok (.aload_n 0, 1) := by decide +kernel
theorem dX6_undo_6 : decode cX6_undo 6 = .ok (.getfield 45, 3) := by decide +kernel
theorem dX6_undo_9 : decode cX6_undo 9 = .ok (.ifCond .ne 9, 3) := by decide +kernel
theorem dX6_undo_12 : decode cX6_undo 12 = .ok (.aload_n 0, 1) := by decide +kernel
theorem dX6_undo_13 : decode cX6_undo 13 = .ok (.iconst 1, 1) := by decide +kernel
theorem dX6_undo_14 : decode cX6_undo 14 = .ok (.invokevirtual 48, 3) := by decide +kernel
theorem dX6_undo_17 : decode cX6_undo 17 = .ok (.ireturn, 1) := by decide +kernel
theorem dX6_undo_18 : decode cX6_undo 18 = .ok (.aload_n 0, 1) := by decide +kernel
theorem dX6_undo_19 : decode cX6_undo 19 = .ok (.dup, 1) := by decide +kernel
theorem dX6_undo_20 : decode cX6_undo 20 = .ok (.getfield 45, 3) := by decide +kernel
theorem dX6_undo_23 : decode cX6_undo 23 = .ok (.iconst 1, 1) := by decide +kernel
theorem dX6_undo_24 : decode cX6_undo 24 = .ok (.isub, 1) := by decide +kernel
theorem dX6_undo_25 : decode cX6_undo 25 = .ok (.putfield 45, 3) := by decide +kernel
theorem dX6_undo_28 : decode cX6_undo 28 = .ok (.iconst 0, 1) := by decide +kernel
theorem dX6_undo_29 : decode cX6_undo 29 = .ok (.istore_n 1, 1) := by decide +kernel
theorem dX6_undo_30 : decode cX6_undo 30 = .ok (.iload_n 1, 1) := by decide +kernel
theorem dX6_undo_31 : decode cX6_undo 31 = .ok (.sipush 177, 3) := by decide +kernel
theorem dX6_undo_34 : decode cX6_undo 34 = .ok (.if_icmp .ge 30, 3) := by decide +kernel
theorem dX6_undo_37 : decode cX6_undo 37 = .ok (.aload_n 0, 1) := by decide +kernel
theorem dX6_undo_38 : decode cX6_undo 38 = .ok (.getfield 7, 3) := by decide +kernel
theorem dX6_undo_41 : decode cX6_undo 41 = .ok (.iload_n 1, 1) := by decide +kernel
theorem dX6_undo_42 : decode cX6_undo 42 = .ok (.aload_n 0, 1) := by decide +kernel
theorem dX6_undo_43 : decode cX6_undo 43 = .ok (.getfield 13, 3) := by decide +kernel
theorem dX6_undo_46 : decode cX6_undo 46 = .ok (.sipush 177, 3) := by decide +kernel
theorem dX6_undo_49 : decode cX6_undo 49 = .ok (.aload_n 0, 1) := by decide +kernel
theorem dX6_undo_50 : decode cX6_undo 50 = .ok (.getfield 45, 3) := by decide +kernel
theorem dX6_undo_53 : decode cX6_undo 53 = .ok (.imul, 1) := by decide +kernel
theorem dX6_undo_54 : decode cX6_undo 54 = .ok (.iload_n 1, 1) := by decide +kernel
theorem dX6_undo_55 : decode cX6_undo 55 = .ok (.iadd, 1) := by decide +kernel
theorem dX6_undo_56 : decode cX6_undo 56 = .ok (.iaload, 1) := by decide +kernel
theorem dX6_undo_57 : decode cX6_undo 57 = .ok (.iastore, 1) := by decide +kernel
theorem dX6_undo_58 : decode cX6_undo 58 = .ok (.iinc 1 1, 3) := by decide +kernel
theorem dX6_undo_61 : decode cX6_undo 61 = .ok (.goto (-31), 3) := by decide +kernel
theorem dX6_undo_64 : decode cX6_undo 64 = .ok (.aload_n 0, 1) := by decide +kernel
theorem dX6_undo_65 : decode cX6_undo 65 = .ok (.getfield 45, 3) := by decide +kernel
theorem dX6_undo_68 : decode cX6_undo 68 = .ok (.ireturn, 1) := by decide +kernel
theorem dX6_keep_0 : decode cX6_keep 0 = .ok (.aload_n 0, 1) := by decide +kernel
theorem dX6_keep_1 : decode cX6_keep 1 = .ok (.iconst 0, 1) := by decide +kernel
theorem dX6_keep_2 : decode cX6_keep 2 = .ok (.putfield 37, 3) := by decide +kernel
theorem dX6_keep_5 : decode cX6_keep 5 = .ok (.iconst 0, 1) := by decide +kernel
theorem dX6_keep_6 : decode cX6_keep 6 = .ok (.istore_n 1, 1) := by decide +kernel
theorem dX6_keep_7 : decode cX6_keep 7 = .ok (.iload_n 1, 1) := by decide +kernel
theorem dX6_keep_8 : decode cX6_keep 8 = .ok (.sipush 177, 3) := by decide +kernel
theorem dX6_keep_11 : decode cX6_keep 11 = .ok (.if_icmp .ge 21, 3) := by decide +kernel
theorem dX6_keep_14 : decode cX6_keep 14 = .ok (.aload_n 0, 1) := by decide +kernel
theorem dX6_keep_15 : decode cX6_keep 15 = .ok (.getfield 16, 3) := by decide +kernel
theorem dX6_keep_18 : decode cX6_keep 18 = .ok (.iload_n 1, 1) := by decide +kernel
theorem dX6_keep_19 : decode cX6_keep 19 = .ok (.aload_n 0, 1) := by decide +kernel
theorem dX6_keep_20 : decode cX6_keep 20 = .ok (.getfield 7, 3) := by decide +kernel
theorem dX6_keep_23 : decode cX6_keep 23 = .ok (.iload_n 1, 1) := by decide +kernel
theorem dX6_keep_24 : decode cX6_keep 24 = .ok (.iaload, 1) := by decide +kernel
theorem dX6_keep_25 : decode cX6_keep 25 = .ok (.iastore, 1) := by decide +kernel
theorem dX6_keep_26 : decode cX6_keep 26 = .ok (.iinc 1 1, 3) := by decide +kernel
theorem dX6_keep_29 : decode cX6_keep 29 = .ok (.goto (-22), 3) := by decide +kernel
theorem dX6_keep_32 : decode cX6_keep 32 = .ok (.aload_n 0, 1) := by decide +kernel
theorem dX6_keep_33 : decode cX6_keep 33 = .ok (.iconst 1, 1) := by decide +kernel
theorem dX6_keep_34 : decode cX6_keep 34 = .ok (.putfield 52, 3) := by decide +kernel
theorem dX6_keep_37 : decode cX6_keep 37 = .ok (.aload_n 0, 1) := by decide +kernel
theorem dX6_keep_38 : decode cX6_keep 38 = .ok (.invokevirtual 56, 3) := by decide +kernel
theorem dX6_keep_41 : decode cX6_keep 41 = .ok (.ireturn, 1) := by decide +kernel
theorem dX6_restore_0 : decode cX6_restore 0 = .ok (.aload_n 0, 1) := by decide +kernel
theorem dX6_restore_1 : decode cX6_restore 1 = .ok (.iconst 0, 1) := by decide +kernel
theorem dX6_restore_2 : decode cX6_restore 2 = .ok (.putfield 37, 3) := by decide +kernel
theorem dX6_restore_5 : decode cX6_restore 5 = .ok (.aload_n 0, 1) := by decide +kernel
theorem dX6_restore_6 : decode cX6_restore 6 = .ok (.getfield 52, 3) := by decide +kernel
theorem dX6_restore_9 : decode cX6_restore 9 = .ok (.ifCond .ne 9, 3) := by decide +kernel
theorem dX6_restore_12 : decode cX6_restore 12 = .ok (.aload_n 0, 1) := by decide +kernel
theorem dX6_restore_13 : decode cX6_restore 13 = .ok (.iconst 1, 1) := by decide +kernel
theorem dX6_restore_14 : decode cX6_restore 14 = .ok (.invokevirtual 48, 3) := by decide +kernel
theorem dX6_restore_17 : decode cX6_restore 17 = .ok (.ireturn, 1) := by decide +kernel
theorem dX6_restore_18 : decode cX6_restore 18 = .ok (.aload_n 0, 1) := by decide +kernel
theorem dX6_restore_19 : decode cX6_restore 19 = .ok (.invokevirtual 60, 3) := by decide +kernel
theorem dX6_restore_22 : decode cX6_restore 22 = .ok (.iconst 0, 1) := by decide +kernel
theorem dX6_restore_23 : decode cX6_restore 23 = .ok (.istore_n 1, 1) := by decide +kernel
theorem dX6_restore_24 : decode cX6_restore 24 = .ok (.iload_n 1, 1) := by decide +kernel
theorem dX6_restore_25 : decode cX6_restore 25 = .ok (.sipush 177, 3) := by decide +kernel
theorem dX6_restore_28 : decode cX6_restore 28 = .ok (.if_icmp .ge 21, 3) := by decide +kernel
theorem dX6_restore_31 : decode cX6_restore 31 = .ok (.aload_n 0, 1) := by decide +kernel
theorem dX6_restore_32 : decode cX6_restore 32 = .ok (.getfield 7, 3) := by decide +kernel
theorem dX6_restore_35 : decode cX6_restore 35 = .ok (.iload_n 1, 1) := by decide +kernel
theorem dX6_restore_36 : decode cX6_restore 36 = .ok (.aload_n 0, 1) := by decide +kernel
theorem dX6_restore_37 : decode cX6_restore 37 = .ok (.getfield 16, 3) := by decide +kernel
theorem dX6_restore_40 : decode cX6_restore 40 = .ok (.iload_n 1, 1) := by decide +kernel
theorem dX6_restore_41 : decode cX6_restore 41 = .ok (.iaload, 1) := by decide +kernel
theorem dX6_restore_42 : decode cX6_restore 42 = .ok (.iastore, 1) := by decide +kernel
theorem dX6_restore_43 : decode cX6_restore 43 = .ok (.iinc 1 1, 3) := by decide +kernel
theorem dX6_restore_46 : decode cX6_restore 46 = .ok (.goto (-22), 3) := by decide +kernel
theorem dX6_restore_49 : decode cX6_restore 49 = .ok (.aload_n 0, 1) := by decide +kernel
theorem dX6_restore_50 : decode cX6_restore 50 = .ok (.invokevirtual 56, 3) := by decide +kernel
theorem dX6_restore_53 : decode cX6_restore 53 = .ok (.ireturn, 1) := by decide +kernel
theorem dX6_standsOn_0 : decode cX6_standsOn 0 = .ok (.iload_n 2, 1) := by decide +kernel
theorem dX6_standsOn_1 : decode cX6_standsOn 1 = .ok (.bipush 7, 2) := by decide +kernel
theorem dX6_standsOn_3 : decode cX6_standsOn 3 = .ok (.idiv, 1) := by decide +kernel
theorem dX6_standsOn_4 : decode cX6_standsOn 4 = .ok (.istore_n 3, 1) := by decide +kernel
theorem dX6_standsOn_5 : decode cX6_standsOn 5 = .ok (.aload_n 0, 1) := by decide +kernel
theorem dX6_standsOn_6 : decode cX6_standsOn 6 = .ok (.iload_n 1, 1) := by decide +kernel
theorem dX6_standsOn_7 : decode cX6_standsOn 7 = .ok (.iconst 1, 1) := by decide +kernel
theorem dX6_standsOn_8 : decode cX6_standsOn 8 = .ok (.invokevirtual 63, 3) := by decide +kernel
theorem dX6_standsOn_11 : decode cX6_standsOn 11 = .ok (.iload_n 2, 1) := by decide +kernel
theorem dX6_standsOn_12 : decode cX6_standsOn 12 = .ok (.bipush 7, 2) := by decide +kernel
theorem dX6_standsOn_14 : decode cX6_standsOn 14 = .ok (.irem, 1) := by decide +kernel
theorem dX6_standsOn_15 : decode cX6_standsOn 15 = .ok (.if_icmp .ne 42, 3) := by decide +kernel
theorem dX6_standsOn_18 : decode cX6_standsOn 18 = .ok (.iload_n 3, 1) := by decide +kernel
theorem dX6_standsOn_19 : decode cX6_standsOn 19 = .ok (.aload_n 0, 1) := by decide +kernel
theorem dX6_standsOn_20 : decode cX6_standsOn 20 = .ok (.iload_n 1, 1) := by decide +kernel
theorem dX6_standsOn_21 : decode cX6_standsOn 21 = .ok (.bipush 7, 2) := by decide +kernel
theorem dX6_standsOn_23 : decode cX6_standsOn 23 = .ok (.invokevirtual 63, 3) := by decide +kernel
theorem dX6_standsOn_26 : decode cX6_standsOn 26 = .ok (.aload_n 0, 1) := by decide +kernel
theorem dX6_standsOn_27 : decode cX6_standsOn 27 = .ok (.iload_n 1, 1) := by decide +kernel
theorem dX6_standsOn_28 : decode cX6_standsOn 28 = .ok (.bipush 8, 2) := by decide +kernel
theorem dX6_standsOn_30 : decode cX6_standsOn 30 = .ok (.invokevirtual 63, 3) := by decide +kernel
theorem dX6_standsOn_33 : decode cX6_standsOn 33 = .ok (.invokestatic 41, 3) := by decide +kernel
theorem dX6_standsOn_36 : decode cX6_standsOn 36 = .ok (.ifCond .eq 21, 3) := by decide +kernel
theorem dX6_standsOn_39 : decode cX6_standsOn 39 = .ok (.aload_n 0, 1) := by decide +kernel
theorem dX6_standsOn_40 : decode cX6_standsOn 40 = .ok (.iload_n 1, 1) := by decide +kernel
theorem dX6_standsOn_41 : decode cX6_standsOn 41 = .ok (.bipush 9, 2) := by decide +kernel
theorem dX6_standsOn_43 : decode cX6_standsOn 43 = .ok (.invokevirtual 63, 3) := by decide +kernel
theorem dX6_standsOn_46 : decode cX6_standsOn 46 = .ok (.iload_n 3, 1) := by decide +kernel
theorem dX6_standsOn_47 : decode cX6_standsOn 47 = .ok (.ishr, 1) := by decide +kernel
theorem dX6_standsOn_48 : decode cX6_standsOn 48 = .ok (.iconst 1, 1) := by decide +kernel
theorem dX6_standsOn_49 : decode cX6_standsOn 49 = .ok (.iand, 1) := by decide +kernel
theorem dX6_standsOn_50 : decode cX6_standsOn 50 = .ok (.ifCond .ne 7, 3) := by decide +kernel
theorem dX6_standsOn_53 : decode cX6_standsOn 53 = .ok (.iconst 1, 1) := by decide +kernel
theorem dX6_standsOn_54 : decode cX6_standsOn 54 = .ok (.goto 4, 3) := by decide +kernel
theorem dX6_standsOn_57 : decode cX6_standsOn 57 = .ok (.iconst 0, 1) := by decide +kernel
theorem dX6_standsOn_58 : decode cX6_standsOn 58 = .ok (.ireturn, 1) := by decide +kernel
theorem dX6_look_0 : decode cX6_look 0 = .ok (.aload_n 0, 1) := by decide +kernel
theorem dX6_look_1 : decode cX6_look 1 = .ok (.iconst 0, 1) := by decide +kernel
theorem dX6_look_2 : decode cX6_look 2 = .ok (.putfield 67, 3) := by decide +kernel
theorem dX6_look_5 : decode cX6_look 5 = .ok (.iconst 0, 1) := by decide +kernel
theorem dX6_look_6 : decode cX6_look 6 = .ok (.istore_n 2, 1) := by decide +kernel
theorem dX6_look_7 : decode cX6_look 7 = .ok (.iload_n 2, 1) := by decide +kernel
theorem dX6_look_8 : decode cX6_look 8 = .ok (.aload_n 0, 1) := by decide +kernel
theorem dX6_look_9 : decode cX6_look 9 = .ok (.getfield 7, 3) := by decide +kernel
theorem dX6_look_12 : decode cX6_look 12 = .ok (.bipush 11, 2) := by decide +kernel
theorem dX6_look_14 : decode cX6_look 14 = .ok (.iaload, 1) := by decide +kernel
theorem dX6_look_15 : decode cX6_look 15 = .ok (.if_icmp .ge 44, 3) := by decide +kernel
theorem dX6_look_18 : decode cX6_look 18 = .ok (.aload_n 0, 1) := by decide +kernel
theorem dX6_look_19 : decode cX6_look 19 = .ok (.iload_n 2, 1) := by decide +kernel
theorem dX6_look_20 : decode cX6_look 20 = .ok (.iload_n 1, 1) := by decide +kernel
theorem dX6_look_21 : decode cX6_look 21 = .ok (.invokevirtual 70, 3) := by decide +kernel
theorem dX6_look_24 : decode cX6_look 24 = .ok (.ifCond .eq 29, 3) := by decide +kernel
theorem dX6_look_27 : decode cX6_look 27 = .ok (.aload_n 0, 1) := by decide +kernel
theorem dX6_look_28 : decode cX6_look 28 = .ok (.getfield 19, 3) := by decide +kernel
theorem dX6_look_31 : decode cX6_look 31 = .ok (.aload_n 0, 1) := by decide +kernel
theorem dX6_look_32 : decode cX6_look 32 = .ok (.getfield 67, 3) := by decide +kernel
theorem dX6_look_35 : decode cX6_look 35 = .ok (.bipush 12, 2) := by decide +kernel
theorem dX6_look_37 : decode cX6_look 37 = .ok (.bipush 10, 2) := by decide +kernel
theorem dX6_look_39 : decode cX6_look 39 = .ok (.iload_n 2, 1) := by decide +kernel
theorem dX6_look_40 : decode cX6_look 40 = .ok (.imul, 1) := by decide +kernel
theorem dX6_look_41 : decode cX6_look 41 = .ok (.iadd, 1) := by decide +kernel
theorem dX6_look_42 : decode cX6_look 42 = .ok (.iastore, 1) := by decide +kernel
theorem dX6_look_43 : decode cX6_look 43 = .ok (.aload_n 0, 1) := by decide +kernel
theorem dX6_look_44 : decode cX6_look 44 = .ok (.dup, 1) := by decide +kernel
theorem dX6_look_45 : decode cX6_look 45 = .ok (.getfield 67, 3) := by decide +kernel
theorem dX6_look_48 : decode cX6_look 48 = .ok (.iconst 1, 1) := by decide +kernel
theorem dX6_look_49 : decode cX6_look 49 = .ok (.iadd, 1) := by decide +kernel
theorem dX6_look_50 : decode cX6_look 50 = .ok (.putfield 67, 3) := by decide +kernel
theorem dX6_look_53 : decode cX6_look 53 = .ok (.iinc 2 1, 3) := by decide +kernel
theorem dX6_look_56 : decode cX6_look 56 = .ok (.goto (-49), 3) := by decide +kernel
theorem dX6_look_59 : decode cX6_look 59 = .ok (.iconst 0, 1) := by decide +kernel
theorem dX6_look_60 : decode cX6_look 60 = .ok (.istore_n 2, 1) := by decide +kernel
theorem dX6_look_61 : decode cX6_look 61 = .ok (.iload_n 2, 1) := by decide +kernel
theorem dX6_look_62 : decode cX6_look 62 = .ok (.aload_n 0, 1) := by decide +kernel
theorem dX6_look_63 : decode cX6_look 63 = .ok (.getfield 7, 3) := by decide +kernel
theorem dX6_look_66 : decode cX6_look 66 = .ok (.bipush 92, 2) := by decide +kernel
theorem dX6_look_68 : decode cX6_look 68 = .ok (.iaload, 1) := by decide +kernel
theorem dX6_look_69 : decode cX6_look 69 = .ok (.if_icmp .ge 45, 3) := by decide +kernel
theorem dX6_look_72 : decode cX6_look 72 = .ok (.aload_n 0, 1) := by decide +kernel
theorem dX6_look_73 : decode cX6_look 73 = .ok (.iload_n 2, 1) := by decide +kernel
theorem dX6_look_74 : decode cX6_look 74 = .ok (.iconst 1, 1) := by decide +kernel
theorem dX6_look_75 : decode cX6_look 75 = .ok (.invokevirtual 74, 3) := by decide +kernel
theorem dX6_look_78 : decode cX6_look 78 = .ok (.iload_n 1, 1) := by decide +kernel
theorem dX6_look_79 : decode cX6_look 79 = .ok (.if_icmp .ne 29, 3) := by decide +kernel
theorem dX6_look_82 : decode cX6_look 82 = .ok (.aload_n 0, 1) := by decide +kernel
theorem dX6_look_83 : decode cX6_look 83 = .ok (.getfield 19, 3) := by decide +kernel
theorem dX6_look_86 : decode cX6_look 86 = .ok (.aload_n 0, 1) := by decide +kernel
theorem dX6_look_87 : decode cX6_look 87 = .ok (.getfield 67, 3) := by decide +kernel
theorem dX6_look_90 : decode cX6_look 90 = .ok (.bipush 93, 2) := by decide +kernel
theorem dX6_look_92 : decode cX6_look 92 = .ok (.bipush 7, 2) := by decide +kernel
theorem dX6_look_94 : decode cX6_look 94 = .ok (.iload_n 2, 1) := by decide +kernel
theorem dX6_look_95 : decode cX6_look 95 = .ok (.imul, 1) := by decide +kernel
theorem dX6_look_96 : decode cX6_look 96 = .ok (.iadd, 1) := by decide +kernel
theorem dX6_look_97 : decode cX6_look 97 = .ok (.iastore, 1) := by decide +kernel
theorem dX6_look_98 : decode cX6_look 98 = .ok (.aload_n 0, 1) := by decide +kernel
theorem dX6_look_99 : decode cX6_look 99 = .ok (.dup, 1) := by decide +kernel
theorem dX6_look_100 : decode cX6_look 100 = .ok (.getfield 67, 3) := by decide +kernel
theorem dX6_look_103 : decode cX6_look 103 = .ok (.iconst 1, 1) := by decide +kernel
theorem dX6_look_104 : decode cX6_look 104 = .ok (.iadd, 1) := by decide +kernel
theorem dX6_look_105 : decode cX6_look 105 = .ok (.putfield 67, 3) := by decide +kernel
theorem dX6_look_108 : decode cX6_look 108 = .ok (.iinc 2 1, 3) := by decide +kernel
theorem dX6_look_111 : decode cX6_look 111 = .ok (.goto (-50), 3) := by decide +kernel
theorem dX6_look_114 : decode cX6_look 114 = .ok (.return_, 1) := by decide +kernel
theorem dX6_daysOf_0 : decode cX6_daysOf 0 = .ok (.iconst 0, 1) := by decide +kernel
theorem dX6_daysOf_1 : decode cX6_daysOf 1 = .ok (.istore_n 2, 1) := by decide +kernel
theorem dX6_daysOf_2 : decode cX6_daysOf 2 = .ok (.iconst 0, 1) := by decide +kernel
theorem dX6_daysOf_3 : decode cX6_daysOf 3 = .ok (.istore_n 3, 1) := by decide +kernel
theorem dX6_daysOf_4 : decode cX6_daysOf 4 = .ok (.iload_n 3, 1) := by decide +kernel
theorem dX6_daysOf_5 : decode cX6_daysOf 5 = .ok (.bipush 84, 2) := by decide +kernel
theorem dX6_daysOf_7 : decode cX6_daysOf 7 = .ok (.if_icmp .ge 26, 3) := by decide +kernel
theorem dX6_daysOf_10 : decode cX6_daysOf 10 = .ok (.iload_n 2, 1) := by decide +kernel
theorem dX6_daysOf_11 : decode cX6_daysOf 11 = .ok (.aload_n 0, 1) := by decide +kernel
theorem dX6_daysOf_12 : decode cX6_daysOf 12 = .ok (.iload_n 1, 1) := by decide +kernel
theorem dX6_daysOf_13 : decode cX6_daysOf 13 = .ok (.iload_n 3, 1) := by decide +kernel
theorem dX6_daysOf_14 : decode cX6_daysOf 14 = .ok (.invokevirtual 70, 3) := by decide +kernel
theorem dX6_daysOf_17 : decode cX6_daysOf 17 = .ok (.ifCond .eq 7, 3) := by decide +kernel
theorem dX6_daysOf_20 : decode cX6_daysOf 20 = .ok (.iconst 1, 1) := by decide +kernel
theorem dX6_daysOf_21 : decode cX6_daysOf 21 = .ok (.goto 4, 3) := by decide +kernel
theorem dX6_daysOf_24 : decode cX6_daysOf 24 = .ok (.iconst 0, 1) := by decide +kernel
theorem dX6_daysOf_25 : decode cX6_daysOf 25 = .ok (.iadd, 1) := by decide +kernel
theorem dX6_daysOf_26 : decode cX6_daysOf 26 = .ok (.istore_n 2, 1) := by decide +kernel
theorem dX6_daysOf_27 : decode cX6_daysOf 27 = .ok (.iinc 3 1, 3) := by decide +kernel
theorem dX6_daysOf_30 : decode cX6_daysOf 30 = .ok (.goto (-26), 3) := by decide +kernel
theorem dX6_daysOf_33 : decode cX6_daysOf 33 = .ok (.iload_n 2, 1) := by decide +kernel
theorem dX6_daysOf_34 : decode cX6_daysOf 34 = .ok (.ireturn, 1) := by decide +kernel
theorem dX6_clashes_0 : decode cX6_clashes 0 = .ok (.aload_n 0, 1) := by decide +kernel
theorem dX6_clashes_1 : decode cX6_clashes 1 = .ok (.getfield 7, 3) := by decide +kernel
theorem dX6_clashes_4 : decode cX6_clashes 4 = .ok (.aload_n 0, 1) := by decide +kernel
theorem dX6_clashes_5 : decode cX6_clashes 5 = .ok (.getfield 19, 3) := by decide +kernel
theorem dX6_clashes_8 : decode cX6_clashes 8 = .ok (.iload_n 1, 1) := by decide +kernel
theorem dX6_clashes_9 : decode cX6_clashes 9 = .ok (.iaload, 1) := by decide +kernel
theorem dX6_clashes_10 : decode cX6_clashes 10 = .ok (.iconst 0, 1) := by decide +kernel
theorem dX6_clashes_11 : decode cX6_clashes 11 = .ok (.iadd, 1) := by decide +kernel
theorem dX6_clashes_12 : decode cX6_clashes 12 = .ok (.iaload, 1) := by decide +kernel
theorem dX6_clashes_13 : decode cX6_clashes 13 = .ok (.iload_n 2, 1) := by decide +kernel
theorem dX6_clashes_14 : decode cX6_clashes 14 = .ok (.if_icmp .ne 56, 3) := by decide +kernel
theorem dX6_clashes_17 : decode cX6_clashes 17 = .ok (.iload_n 3, 1) := by decide +kernel
theorem dX6_clashes_18 : decode cX6_clashes 18 = .ok (.aload_n 0, 1) := by decide +kernel
theorem dX6_clashes_19 : decode cX6_clashes 19 = .ok (.getfield 7, 3) := by decide +kernel
theorem dX6_clashes_22 : decode cX6_clashes 22 = .ok (.aload_n 0, 1) := by decide +kernel
theorem dX6_clashes_23 : decode cX6_clashes 23 = .ok (.getfield 19, 3) := by decide +kernel
theorem dX6_clashes_26 : decode cX6_clashes 26 = .ok (.iload_n 1, 1) := by decide +kernel
theorem dX6_clashes_27 : decode cX6_clashes 27 = .ok (.iaload, 1) := by decide +kernel
theorem dX6_clashes_28 : decode cX6_clashes 28 = .ok (.iconst 3, 1) := by decide +kernel
theorem dX6_clashes_29 : decode cX6_clashes 29 = .ok (.iadd, 1) := by decide +kernel
theorem dX6_clashes_30 : decode cX6_clashes 30 = .ok (.iaload, 1) := by decide +kernel
theorem dX6_clashes_31 : decode cX6_clashes 31 = .ok (.aload_n 0, 1) := by decide +kernel
theorem dX6_clashes_32 : decode cX6_clashes 32 = .ok (.getfield 7, 3) := by decide +kernel
theorem dX6_clashes_35 : decode cX6_clashes 35 = .ok (.iconst 0, 1) := by decide +kernel
theorem dX6_clashes_36 : decode cX6_clashes 36 = .ok (.iaload, 1) := by decide +kernel
theorem dX6_clashes_37 : decode cX6_clashes 37 = .ok (.iadd, 1) := by decide +kernel
theorem dX6_clashes_38 : decode cX6_clashes 38 = .ok (.if_icmp .ge 32, 3) := by decide +kernel
theorem dX6_clashes_41 : decode cX6_clashes 41 = .ok (.aload_n 0, 1) := by decide +kernel
theorem dX6_clashes_42 : decode cX6_clashes 42 = .ok (.getfield 7, 3) := by decide +kernel
theorem dX6_clashes_45 : decode cX6_clashes 45 = .ok (.aload_n 0, 1) := by decide +kernel
theorem dX6_clashes_46 : decode cX6_clashes 46 = .ok (.getfield 19, 3) := by decide +kernel
theorem dX6_clashes_49 : decode cX6_clashes 49 = .ok (.iload_n 1, 1) := by decide +kernel
theorem dX6_clashes_50 : decode cX6_clashes 50 = .ok (.iaload, 1) := by decide +kernel
theorem dX6_clashes_51 : decode cX6_clashes 51 = .ok (.iconst 2, 1) := by decide +kernel
theorem dX6_clashes_52 : decode cX6_clashes 52 = .ok (.iadd, 1) := by decide +kernel
theorem dX6_clashes_53 : decode cX6_clashes 53 = .ok (.iaload, 1) := by decide +kernel
theorem dX6_clashes_54 : decode cX6_clashes 54 = .ok (.iload 4, 2) := by decide +kernel
theorem dX6_clashes_56 : decode cX6_clashes 56 = .ok (.aload_n 0, 1) := by decide +kernel
theorem dX6_clashes_57 : decode cX6_clashes 57 = .ok (.getfield 7, 3) := by decide +kernel
theorem dX6_clashes_60 : decode cX6_clashes 60 = .ok (.iconst 0, 1) := by decide +kernel
theorem dX6_clashes_61 : decode cX6_clashes 61 = .ok (.iaload, 1) := by decide +kernel
theorem dX6_clashes_62 : decode cX6_clashes 62 = .ok (.iadd, 1) := by decide +kernel
theorem dX6_clashes_63 : decode cX6_clashes 63 = .ok (.if_icmp .ge 7, 3) := by decide +kernel
theorem dX6_clashes_66 : decode cX6_clashes 66 = .ok (.iconst 1, 1) := by decide +kernel
theorem dX6_clashes_67 : decode cX6_clashes 67 = .ok (.goto 4, 3) := by decide +kernel
theorem dX6_clashes_70 : decode cX6_clashes 70 = .ok (.iconst 0, 1) := by decide +kernel
theorem dX6_clashes_71 : decode cX6_clashes 71 = .ok (.ireturn, 1) := by decide +kernel
theorem dX6_addCleaning_0 : decode cX6_addCleaning 0 = .ok (.aload_n 0, 1) := by decide +kernel
theorem dX6_addCleaning_1 : decode cX6_addCleaning 1 = .ok (.getfield 77, 3) := by decide +kernel
theorem dX6_addCleaning_4 : decode cX6_addCleaning 4 = .ok (.istore 4, 2) := by decide +kernel
theorem dX6_addCleaning_6 : decode cX6_addCleaning 6 = .ok (.iload 4, 2) := by decide +kernel
theorem dX6_addCleaning_8 : decode cX6_addCleaning 8 = .ok (.ifCond .le 96, 3) := by decide +kernel
theorem dX6_addCleaning_11 : decode cX6_addCleaning 11 = .ok (.aload_n 0, 1) := by decide +kernel
theorem dX6_addCleaning_12 : decode cX6_addCleaning 12 = .ok (.getfield 28, 3) := by decide +kernel
theorem dX6_addCleaning_15 : decode cX6_addCleaning 15 = .ok (.iload 4, 2) := by decide +kernel
theorem dX6_addCleaning_17 : decode cX6_addCleaning 17 = .ok (.iconst 1, 1) := by decide +kernel
theorem dX6_addCleaning_18 : decode cX6_addCleaning 18 = .ok (.isub, 1) := by decide +kernel
theorem dX6_addCleaning_19 : decode cX6_addCleaning 19 = .ok (.iaload, 1) := by decide +kernel
theorem dX6_addCleaning_20 : decode cX6_addCleaning 20 = .ok (.iload_n 3, 1) := by decide +kernel
theorem dX6_addCleaning_21 : decode cX6_addCleaning 21 = .ok (.if_icmp .gt 29, 3) := by decide +kernel
theorem dX6_addCleaning_24 : decode cX6_addCleaning 24 = .ok (.aload_n 0, 1) := by decide +kernel
theorem dX6_addCleaning_25 : decode cX6_addCleaning 25 = .ok (.getfield 28, 3) := by decide +kernel
theorem dX6_addCleaning_28 : decode cX6_addCleaning 28 = .ok (.iload 4, 2) := by decide +kernel
theorem dX6_addCleaning_30 : decode cX6_addCleaning 30 = .ok (.iconst 1, 1) := by decide +kernel
theorem dX6_addCleaning_31 : decode cX6_addCleaning 31 = .ok (.isub, 1) := by decide +kernel
theorem dX6_addCleaning_32 : decode cX6_addCleaning 32 = .ok (.iaload, 1) := by decide +kernel
theorem dX6_addCleaning_33 : decode cX6_addCleaning 33 = .ok (.iload_n 3, 1) := by decide +kernel
theorem dX6_addCleaning_34 : decode cX6_addCleaning 34 = .ok (.if_icmp .ne 70, 3) := by decide +kernel
theorem dX6_addCleaning_37 : decode cX6_addCleaning 37 = .ok (.aload_n 0, 1) := by decide +kernel
theorem dX6_addCleaning_38 : decode cX6_addCleaning 38 = .ok (.getfield 22, 3) := by decide +kernel
theorem dX6_addCleaning_41 : decode cX6_addCleaning 41 = .ok (.iload 4, 2) := by decide +kernel
theorem dX6_addCleaning_43 : decode cX6_addCleaning 43 = .ok (.iconst 1, 1) := by decide +kernel
theorem dX6_addCleaning_44 : decode cX6_addCleaning 44 = .ok (.isub, 1) := by decide +kernel
theorem dX6_addCleaning_45 : decode cX6_addCleaning 45 = .ok (.iaload, 1) := by decide +kernel
theorem dX6_addCleaning_46 : decode cX6_addCleaning 46 = .ok (.iload_n 1, 1) := by decide +kernel
theorem dX6_addCleaning_47 : decode cX6_addCleaning 47 = .ok (.if_icmp .le 57, 3) := by decide +kernel
theorem dX6_addCleaning_50 : decode cX6_addCleaning 50 = .ok (.aload_n 0, 1) := by decide +kernel
theorem dX6_addCleaning_51 : decode cX6_addCleaning 51 = .ok (.getfield 22, 3) := by decide +kernel
theorem dX6_addCleaning_54 : decode cX6_addCleaning 54 = .ok (.iload 4, 2) := by decide +kernel
theorem dX6_addCleaning_56 : decode cX6_addCleaning 56 = .ok (.aload_n 0, 1) := by decide +kernel
theorem dX6_addCleaning_57 : decode cX6_addCleaning 57 = .ok (.getfield 22, 3) := by decide +kernel
theorem dX6_addCleaning_60 : decode cX6_addCleaning 60 = .ok (.iload 4, 2) := by decide +kernel
theorem dX6_addCleaning_62 : decode cX6_addCleaning 62 = .ok (.iconst 1, 1) := by decide +kernel
theorem dX6_addCleaning_63 : decode cX6_addCleaning 63 = .ok (.isub, 1) := by decide +kernel
theorem dX6_addCleaning_64 : decode cX6_addCleaning 64 = .ok (.iaload, 1) := by decide +kernel
theorem dX6_addCleaning_65 : decode cX6_addCleaning 65 = .ok (.iastore, 1) := by decide +kernel
theorem dX6_addCleaning_66 : decode cX6_addCleaning 66 = .ok (.aload_n 0, 1) := by decide +kernel
theorem dX6_addCleaning_67 : decode cX6_addCleaning 67 = .ok (.getfield 25, 3) := by decide +kernel
theorem dX6_addCleaning_70 : decode cX6_addCleaning 70 = .ok (.iload 4, 2) := by decide +kernel
theorem dX6_addCleaning_72 : decode cX6_addCleaning 72 = .ok (.aload_n 0, 1) := by decide +kernel
theorem dX6_addCleaning_73 : decode cX6_addCleaning 73 = .ok (.getfield 25, 3) := by decide +kernel
theorem dX6_addCleaning_76 : decode cX6_addCleaning 76 = .ok (.iload 4, 2) := by decide +kernel
theorem dX6_addCleaning_78 : decode cX6_addCleaning 78 = .ok (.iconst 1, 1) := by decide +kernel
theorem dX6_addCleaning_79 : decode cX6_addCleaning 79 = .ok (.isub, 1) := by decide +kernel
theorem dX6_addCleaning_80 : decode cX6_addCleaning 80 = .ok (.iaload, 1) := by decide +kernel
theorem dX6_addCleaning_81 : decode cX6_addCleaning 81 = .ok (.iastore, 1) := by decide +kernel
theorem dX6_addCleaning_82 : decode cX6_addCleaning 82 = .ok (.aload_n 0, 1) := by decide +kernel
theorem dX6_addCleaning_83 : decode cX6_addCleaning 83 = .ok (.getfield 28, 3) := by decide +kernel
theorem dX6_addCleaning_86 : decode cX6_addCleaning 86 = .ok (.iload 4, 2) := by decide +kernel
theorem dX6_addCleaning_88 : decode cX6_addCleaning 88 = .ok (.aload_n 0, 1) := by decide +kernel
theorem dX6_addCleaning_89 : decode cX6_addCleaning 89 = .ok (.getfield 28, 3) := by decide +kernel
theorem dX6_addCleaning_92 : decode cX6_addCleaning 92 = .ok (.iload 4, 2) := by decide +kernel
theorem dX6_addCleaning_94 : decode cX6_addCleaning 94 = .ok (.iconst 1, 1) := by decide +kernel
theorem dX6_addCleaning_95 : decode cX6_addCleaning 95 = .ok (.isub, 1) := by decide +kernel
theorem dX6_addCleaning_96 : decode cX6_addCleaning 96 = .ok (.iaload, 1) := by decide +kernel
theorem dX6_addCleaning_97 : decode cX6_addCleaning 97 = .ok (.iastore, 1) := by decide +kernel
theorem dX6_addCleaning_98 : decode cX6_addCleaning 98 = .ok (.iinc 4 (-1), 3) := by decide +kernel
theorem dX6_addCleaning_101 : decode cX6_addCleaning 101 = .ok (.goto (-95), 3) := by decide +kernel
theorem dX6_addCleaning_104 : decode cX6_addCleaning 104 = .ok (.aload_n 0, 1) := by decide +kernel
theorem dX6_addCleaning_105 : decode cX6_addCleaning 105 = .ok (.getfield 22, 3) := by decide +kernel
theorem dX6_addCleaning_108 : decode cX6_addCleaning 108 = .ok (.iload 4, 2) := by decide +kernel
theorem dX6_addCleaning_110 : decode cX6_addCleaning 110 = .ok (.iload_n 1, 1) := by decide +kernel
theorem dX6_addCleaning_111 : decode cX6_addCleaning 111 = .ok (.iastore, 1) := by decide +kernel
theorem dX6_addCleaning_112 : decode cX6_addCleaning 112 = .ok (.aload_n 0, 1) := by decide +kernel
theorem dX6_addCleaning_113 : decode cX6_addCleaning 113 = .ok (.getfield 25, 3) := by decide +kernel
theorem dX6_addCleaning_116 : decode cX6_addCleaning 116 = .ok (.iload 4, 2) := by decide +kernel
theorem dX6_addCleaning_118 : decode cX6_addCleaning 118 = .ok (.iload_n 2, 1) := by decide +kernel
theorem dX6_addCleaning_119 : decode cX6_addCleaning 119 = .ok (.iastore, 1) := by decide +kernel
theorem dX6_addCleaning_120 : decode cX6_addCleaning 120 = .ok (.aload_n 0, 1) := by decide +kernel
theorem dX6_addCleaning_121 : decode cX6_addCleaning 121 = .ok (.getfield 28, 3) := by decide +kernel
theorem dX6_addCleaning_124 : decode cX6_addCleaning 124 = .ok (.iload 4, 2) := by decide +kernel
theorem dX6_addCleaning_126 : decode cX6_addCleaning 126 = .ok (.iload_n 3, 1) := by decide +kernel
theorem dX6_addCleaning_127 : decode cX6_addCleaning 127 = .ok (.iastore, 1) := by decide +kernel
theorem dX6_addCleaning_128 : decode cX6_addCleaning 128 = .ok (.aload_n 0, 1) := by decide +kernel
theorem dX6_addCleaning_129 : decode cX6_addCleaning 129 = .ok (.dup, 1) := by decide +kernel
theorem dX6_addCleaning_130 : decode cX6_addCleaning 130 = .ok (.getfield 77, 3) := by decide +kernel
theorem dX6_addCleaning_133 : decode cX6_addCleaning 133 = .ok (.iconst 1, 1) := by decide +kernel
theorem dX6_addCleaning_134 : decode cX6_addCleaning 134 = .ok (.iadd, 1) := by decide +kernel
theorem dX6_addCleaning_135 : decode cX6_addCleaning 135 = .ok (.putfield 77, 3) := by decide +kernel
theorem dX6_addCleaning_138 : decode cX6_addCleaning 138 = .ok (.return_, 1) := by decide +kernel
theorem dX6_isCleaned_0 : decode cX6_isCleaned 0 = .ok (.iconst 0, 1) := by decide +kernel
theorem dX6_isCleaned_1 : decode cX6_isCleaned 1 = .ok (.istore_n 1, 1) := by decide +kernel
theorem dX6_isCleaned_2 : decode cX6_isCleaned 2 = .ok (.iconst 1, 1) := by decide +kernel
theorem dX6_isCleaned_3 : decode cX6_isCleaned 3 = .ok (.istore_n 2, 1) := by decide +kernel
theorem dX6_isCleaned_4 : decode cX6_isCleaned 4 = .ok (.iconst 0, 1) := by decide +kernel
theorem dX6_isCleaned_5 : decode cX6_isCleaned 5 = .ok (.istore_n 3, 1) := by decide +kernel
theorem dX6_isCleaned_6 : decode cX6_isCleaned 6 = .ok (.iload_n 3, 1) := by decide +kernel
theorem dX6_isCleaned_7 : decode cX6_isCleaned 7 = .ok (.aload_n 0, 1) := by decide +kernel
theorem dX6_isCleaned_8 : decode cX6_isCleaned 8 = .ok (.getfield 77, 3) := by decide +kernel
theorem dX6_isCleaned_11 : decode cX6_isCleaned 11 = .ok (.if_icmp .ge 103, 3) := by decide +kernel
theorem dX6_isCleaned_14 : decode cX6_isCleaned 14 = .ok (.iload_n 1, 1) := by decide +kernel
theorem dX6_isCleaned_15 : decode cX6_isCleaned 15 = .ok (.aload_n 0, 1) := by decide +kernel
theorem dX6_isCleaned_16 : decode cX6_isCleaned 16 = .ok (.getfield 28, 3) := by decide +kernel
theorem dX6_isCleaned_19 : decode cX6_isCleaned 19 = .ok (.iload_n 3, 1) := by decide +kernel
theorem dX6_isCleaned_20 : decode cX6_isCleaned 20 = .ok (.iaload, 1) := by decide +kernel
theorem dX6_isCleaned_21 : decode cX6_isCleaned 21 = .ok (.if_icmp .le 7, 3) := by decide +kernel
theorem dX6_isCleaned_24 : decode cX6_isCleaned 24 = .ok (.iload_n 1, 1) := by decide +kernel
theorem dX6_isCleaned_25 : decode cX6_isCleaned 25 = .ok (.goto 9, 3) := by decide +kernel
theorem dX6_isCleaned_28 : decode cX6_isCleaned 28 = .ok (.aload_n 0, 1) := by decide +kernel
theorem dX6_isCleaned_29 : decode cX6_isCleaned 29 = .ok (.getfield 28, 3) := by decide +kernel
theorem dX6_isCleaned_32 : decode cX6_isCleaned 32 = .ok (.iload_n 3, 1) := by decide +kernel
theorem dX6_isCleaned_33 : decode cX6_isCleaned 33 = .ok (.iaload, 1) := by decide +kernel
theorem dX6_isCleaned_34 : decode cX6_isCleaned 34 = .ok (.aload_n 0, 1) := by decide +kernel
theorem dX6_isCleaned_35 : decode cX6_isCleaned 35 = .ok (.getfield 7, 3) := by decide +kernel
theorem dX6_isCleaned_38 : decode cX6_isCleaned 38 = .ok (.iconst 0, 1) := by decide +kernel
theorem dX6_isCleaned_39 : decode cX6_isCleaned 39 = .ok (.iaload, 1) := by decide +kernel
theorem dX6_isCleaned_40 : decode cX6_isCleaned 40 = .ok (.iadd, 1) := by decide +kernel
theorem dX6_isCleaned_41 : decode cX6_isCleaned 41 = .ok (.istore_n 1, 1) := by decide +kernel
theorem dX6_isCleaned_42 : decode cX6_isCleaned 42 = .ok (.iload_n 3, 1) := by decide +kernel
theorem dX6_isCleaned_43 : decode cX6_isCleaned 43 = .ok (.iconst 1, 1) := by decide +kernel
theorem dX6_isCleaned_44 : decode cX6_isCleaned 44 = .ok (.iadd, 1) := by decide +kernel
theorem dX6_isCleaned_45 : decode cX6_isCleaned 45 = .ok (.istore 4, 2) := by decide +kernel
theorem dX6_isCleaned_47 : decode cX6_isCleaned 47 = .ok (.iload 4, 2) := by decide +kernel
theorem dX6_isCleaned_49 : decode cX6_isCleaned 49 = .ok (.aload_n 0, 1) := by decide +kernel
theorem dX6_isCleaned_50 : decode cX6_isCleaned 50 = .ok (.getfield 77, 3) := by decide +kernel
theorem dX6_isCleaned_53 : decode cX6_isCleaned 53 = .ok (.if_icmp .ge 25, 3) := by decide +kernel
theorem dX6_isCleaned_56 : decode cX6_isCleaned 56 = .ok (.aload_n 0, 1) := by decide +kernel
theorem dX6_isCleaned_57 : decode cX6_isCleaned 57 = .ok (.getfield 22, 3) := by decide +kernel
theorem dX6_isCleaned_60 : decode cX6_isCleaned 60 = .ok (.iload 4, 2) := by decide +kernel
theorem dX6_isCleaned_62 : decode cX6_isCleaned 62 = .ok (.iaload, 1) := by decide +kernel
theorem dX6_isCleaned_63 : decode cX6_isCleaned 63 = .ok (.aload_n 0, 1) := by decide +kernel
theorem dX6_isCleaned_64 : decode cX6_isCleaned 64 = .ok (.getfield 22, 3) := by decide +kernel
theorem dX6_isCleaned_67 : decode cX6_isCleaned 67 = .ok (.iload_n 3, 1) := by decide +kernel
theorem dX6_isCleaned_68 : decode cX6_isCleaned 68 = .ok (.iaload, 1) := by decide +kernel
theorem dX6_isCleaned_69 : decode cX6_isCleaned 69 = .ok (.if_icmp .eq 9, 3) := by decide +kernel
theorem dX6_isCleaned_72 : decode cX6_isCleaned 72 = .ok (.iinc 4 1, 3) := by decide +kernel
theorem dX6_isCleaned_75 : decode cX6_isCleaned 75 = .ok (.goto (-28), 3) := by decide +kernel
theorem dX6_isCleaned_78 : decode cX6_isCleaned 78 = .ok (.iload_n 2, 1) := by decide +kernel
theorem dX6_isCleaned_79 : decode cX6_isCleaned 79 = .ok (.ifCond .eq 27, 3) := by decide +kernel
theorem dX6_isCleaned_82 : decode cX6_isCleaned 82 = .ok (.iload 4, 2) := by decide +kernel
theorem dX6_isCleaned_84 : decode cX6_isCleaned 84 = .ok (.aload_n 0, 1) := by decide +kernel
theorem dX6_isCleaned_85 : decode cX6_isCleaned 85 = .ok (.getfield 77, 3) := by decide +kernel
theorem dX6_isCleaned_88 : decode cX6_isCleaned 88 = .ok (.if_icmp .eq 14, 3) := by decide +kernel
theorem dX6_isCleaned_91 : decode cX6_isCleaned 91 = .ok (.iload_n 1, 1) := by decide +kernel
theorem dX6_isCleaned_92 : decode cX6_isCleaned 92 = .ok (.aload_n 0, 1) := by decide +kernel
theorem dX6_isCleaned_93 : decode cX6_isCleaned 93 = .ok (.getfield 25, 3) := by decide +kernel
theorem dX6_isCleaned_96 : decode cX6_isCleaned 96 = .ok (.iload 4, 2) := by decide +kernel
theorem dX6_isCleaned_98 : decode cX6_isCleaned 98 = .ok (.iaload, 1) := by decide +kernel
theorem dX6_isCleaned_99 : decode cX6_isCleaned 99 = .ok (.if_icmp .gt 7, 3) := by decide +kernel
theorem dX6_isCleaned_102 : decode cX6_isCleaned 102 = .ok (.iconst 1, 1) := by decide +kernel
theorem dX6_isCleaned_103 : decode cX6_isCleaned 103 = .ok (.goto 4, 3) := by decide +kernel
theorem dX6_isCleaned_106 : decode cX6_isCleaned 106 = .ok (.iconst 0, 1) := by decide +kernel
theorem dX6_isCleaned_107 : decode cX6_isCleaned 107 = .ok (.istore_n 2, 1) := by decide +kernel
theorem dX6_isCleaned_108 : decode cX6_isCleaned 108 = .ok (.iinc 3 1, 3) := by decide +kernel
theorem dX6_isCleaned_111 : decode cX6_isCleaned 111 = .ok (.goto (-105), 3) := by decide +kernel
theorem dX6_isCleaned_114 : decode cX6_isCleaned 114 = .ok (.iload_n 2, 1) := by decide +kernel
theorem dX6_isCleaned_115 : decode cX6_isCleaned 115 = .ok (.ireturn, 1) := by decide +kernel
theorem dX6_reason_0 : decode cX6_reason 0 = .ok (.aload_n 0, 1) := by decide +kernel
theorem dX6_reason_1 : decode cX6_reason 1 = .ok (.iload_n 2, 1) := by decide +kernel
theorem dX6_reason_2 : decode cX6_reason 2 = .ok (.invokevirtual 80, 3) := by decide +kernel
theorem dX6_reason_5 : decode cX6_reason 5 = .ok (.aload_n 0, 1) := by decide +kernel
theorem dX6_reason_6 : decode cX6_reason 6 = .ok (.iconst 0, 1) := by decide +kernel
theorem dX6_reason_7 : decode cX6_reason 7 = .ok (.putfield 77, 3) := by decide +kernel
theorem dX6_reason_10 : decode cX6_reason 10 = .ok (.iconst 0, 1) := by decide +kernel
theorem dX6_reason_11 : decode cX6_reason 11 = .ok (.istore 6, 2) := by decide +kernel
theorem dX6_reason_13 : decode cX6_reason 13 = .ok (.iload 6, 2) := by decide +kernel
theorem dX6_reason_15 : decode cX6_reason 15 = .ok (.aload_n 0, 1) := by decide +kernel
theorem dX6_reason_16 : decode cX6_reason 16 = .ok (.getfield 67, 3) := by decide +kernel
theorem dX6_reason_19 : decode cX6_reason 19 = .ok (.if_icmp .ge 98, 3) := by decide +kernel
theorem dX6_reason_22 : decode cX6_reason 22 = .ok (.aload_n 0, 1) := by decide +kernel
theorem dX6_reason_23 : decode cX6_reason 23 = .ok (.iload 6, 2) := by decide +kernel
theorem dX6_reason_25 : decode cX6_reason 25 = .ok (.iload_n 1, 1) := by decide +kernel
theorem dX6_reason_26 : decode cX6_reason 26 = .ok (.iload_n 3, 1) := by decide +kernel
theorem dX6_reason_27 : decode cX6_reason 27 = .ok (.iload 4, 2) := by decide +kernel
theorem dX6_reason_29 : decode cX6_reason 29 = .ok (.invokevirtual 84, 3) := by decide +kernel
theorem dX6_reason_32 : decode cX6_reason 32 = .ok (.istore 7, 2) := by decide +kernel
theorem dX6_reason_34 : decode cX6_reason 34 = .ok (.iload 7, 2) := by decide +kernel
theorem dX6_reason_36 : decode cX6_reason 36 = .ok (.ifCond .eq 24, 3) := by decide +kernel
theorem dX6_reason_39 : decode cX6_reason 39 = .ok (.aload_n 0, 1) := by decide +kernel
theorem dX6_reason_40 : decode cX6_reason 40 = .ok (.getfield 7, 3) := by decide +kernel
theorem dX6_reason_43 : decode cX6_reason 43 = .ok (.aload_n 0, 1) := by decide +kernel
theorem dX6_reason_44 : decode cX6_reason 44 = .ok (.getfield 19, 3) := by decide +kernel
theorem dX6_reason_47 : decode cX6_reason 47 = .ok (.iload 6, 2) := by decide +kernel
theorem dX6_reason_49 : decode cX6_reason 49 = .ok (.iaload, 1) := by decide +kernel
theorem dX6_reason_50 : decode cX6_reason 50 = .ok (.iconst 4, 1) := by decide +kernel
theorem dX6_reason_51 : decode cX6_reason 51 = .ok (.iadd, 1) := by decide +kernel
theorem dX6_reason_52 : decode cX6_reason 52 = .ok (.iaload, 1) := by decide +kernel
theorem dX6_reason_53 : decode cX6_reason 53 = .ok (.iload 5, 2) := by decide +kernel
theorem dX6_reason_55 : decode cX6_reason 55 = .ok (.if_icmp .lt 5, 3) := by decide +kernel
theorem dX6_reason_58 : decode cX6_reason 58 = .ok (.iconst 2, 1) := by decide +kernel
theorem dX6_reason_59 : decode cX6_reason 59 = .ok (.ireturn, 1) := by decide +kernel
theorem dX6_reason_60 : decode cX6_reason 60 = .ok (.iload 7, 2) := by decide +kernel
theorem dX6_reason_62 : decode cX6_reason 62 = .ok (.ifCond .ne 49, 3) := by decide +kernel
theorem dX6_reason_65 : decode cX6_reason 65 = .ok (.aload_n 0, 1) := by decide +kernel
theorem dX6_reason_66 : decode cX6_reason 66 = .ok (.aload_n 0, 1) := by decide +kernel
theorem dX6_reason_67 : decode cX6_reason 67 = .ok (.getfield 7, 3) := by decide +kernel
theorem dX6_reason_70 : decode cX6_reason 70 = .ok (.aload_n 0, 1) := by decide +kernel
theorem dX6_reason_71 : decode cX6_reason 71 = .ok (.getfield 19, 3) := by decide +kernel
theorem dX6_reason_74 : decode cX6_reason 74 = .ok (.iload 6, 2) := by decide +kernel
theorem dX6_reason_76 : decode cX6_reason 76 = .ok (.iaload, 1) := by decide +kernel
theorem dX6_reason_77 : decode cX6_reason 77 = .ok (.iconst 0, 1) := by decide +kernel
theorem dX6_reason_78 : decode cX6_reason 78 = .ok (.iadd, 1) := by decide +kernel
theorem dX6_reason_79 : decode cX6_reason 79 = .ok (.iaload, 1) := by decide +kernel
theorem dX6_reason_80 : decode cX6_reason 80 = .ok (.aload_n 0, 1) := by decide +kernel
theorem dX6_reason_81 : decode cX6_reason 81 = .ok (.getfield 7, 3) := by decide +kernel
theorem dX6_reason_84 : decode cX6_reason 84 = .ok (.aload_n 0, 1) := by decide +kernel
theorem dX6_reason_85 : decode cX6_reason 85 = .ok (.getfield 19, 3) := by decide +kernel
theorem dX6_reason_88 : decode cX6_reason 88 = .ok (.iload 6, 2) := by decide +kernel
theorem dX6_reason_90 : decode cX6_reason 90 = .ok (.iaload, 1) := by decide +kernel
theorem dX6_reason_91 : decode cX6_reason 91 = .ok (.iconst 2, 1) := by decide +kernel
theorem dX6_reason_92 : decode cX6_reason 92 = .ok (.iadd, 1) := by decide +kernel
theorem dX6_reason_93 : decode cX6_reason 93 = .ok (.iaload, 1) := by decide +kernel
theorem dX6_reason_94 : decode cX6_reason 94 = .ok (.aload_n 0, 1) := by decide +kernel
theorem dX6_reason_95 : decode cX6_reason 95 = .ok (.getfield 7, 3) := by decide +kernel
theorem dX6_reason_98 : decode cX6_reason 98 = .ok (.aload_n 0, 1) := by decide +kernel
theorem dX6_reason_99 : decode cX6_reason 99 = .ok (.getfield 19, 3) := by decide +kernel
theorem dX6_reason_102 : decode cX6_reason 102 = .ok (.iload 6, 2) := by decide +kernel
theorem dX6_reason_104 : decode cX6_reason 104 = .ok (.iaload, 1) := by decide +kernel
theorem dX6_reason_105 : decode cX6_reason 105 = .ok (.iconst 3, 1) := by decide +kernel
theorem dX6_reason_106 : decode cX6_reason 106 = .ok (.iadd, 1) := by decide +kernel
theorem dX6_reason_107 : decode cX6_reason 107 = .ok (.iaload, 1) := by decide +kernel
theorem dX6_reason_108 : decode cX6_reason 108 = .ok (.invokevirtual 88, 3) := by decide +kernel
theorem dX6_reason_111 : decode cX6_reason 111 = .ok (.iinc 6 1, 3) := by decide +kernel
theorem dX6_reason_114 : decode cX6_reason 114 = .ok (.goto (-101), 3) := by decide +kernel
theorem dX6_reason_117 : decode cX6_reason 117 = .ok (.aload_n 0, 1) := by decide +kernel
theorem dX6_reason_118 : decode cX6_reason 118 = .ok (.iload_n 1, 1) := by decide +kernel
theorem dX6_reason_119 : decode cX6_reason 119 = .ok (.iload_n 3, 1) := by decide +kernel
theorem dX6_reason_120 : decode cX6_reason 120 = .ok (.iload 4, 2) := by decide +kernel
theorem dX6_reason_122 : decode cX6_reason 122 = .ok (.invokevirtual 88, 3) := by decide +kernel
theorem dX6_reason_125 : decode cX6_reason 125 = .ok (.aload_n 0, 1) := by decide +kernel
theorem dX6_reason_126 : decode cX6_reason 126 = .ok (.invokevirtual 92, 3) := by decide +kernel
theorem dX6_reason_129 : decode cX6_reason 129 = .ok (.ifCond .eq 7, 3) := by decide +kernel
theorem dX6_reason_132 : decode cX6_reason 132 = .ok (.iconst 0, 1) := by decide +kernel
theorem dX6_reason_133 : decode cX6_reason 133 = .ok (.goto 4, 3) := by decide +kernel
theorem dX6_reason_136 : decode cX6_reason 136 = .ok (.iconst 3, 1) := by decide +kernel
theorem dX6_reason_137 : decode cX6_reason 137 = .ok (.ireturn, 1) := by decide +kernel
theorem dX6_refusalOf_0 : decode cX6_refusalOf 0 = .ok (.aload_n 0, 1) := by decide +kernel
theorem dX6_refusalOf_1 : decode cX6_refusalOf 1 = .ok (.getfield 7, 3) := by decide +kernel
theorem dX6_refusalOf_4 : decode cX6_refusalOf 4 = .ok (.bipush 92, 2) := by decide +kernel
theorem dX6_refusalOf_6 : decode cX6_refusalOf 6 = .ok (.iaload, 1) := by decide +kernel
theorem dX6_refusalOf_7 : decode cX6_refusalOf 7 = .ok (.bipush 12, 2) := by decide +kernel
theorem dX6_refusalOf_9 : decode cX6_refusalOf 9 = .ok (.if_icmp .ne 7, 3) := by decide +kernel
theorem dX6_refusalOf_12 : decode cX6_refusalOf 12 = .ok (.iconst 1, 1) := by decide +kernel
theorem dX6_refusalOf_13 : decode cX6_refusalOf 13 = .ok (.goto 14, 3) := by decide +kernel
theorem dX6_refusalOf_16 : decode cX6_refusalOf 16 = .ok (.aload_n 0, 1) := by decide +kernel
theorem dX6_refusalOf_17 : decode cX6_refusalOf 17 = .ok (.iload_n 1, 1) := by decide +kernel
theorem dX6_refusalOf_18 : decode cX6_refusalOf 18 = .ok (.iload_n 2, 1) := by decide +kernel
theorem dX6_refusalOf_19 : decode cX6_refusalOf 19 = .ok (.iload_n 3, 1) := by decide +kernel
theorem dX6_refusalOf_20 : decode cX6_refusalOf 20 = .ok (.iload 4, 2) := by decide +kernel
theorem dX6_refusalOf_22 : decode cX6_refusalOf 22 = .ok (.iload 5, 2) := by decide +kernel
theorem dX6_refusalOf_24 : decode cX6_refusalOf 24 = .ok (.invokevirtual 96, 3) := by decide +kernel
theorem dX6_refusalOf_27 : decode cX6_refusalOf 27 = .ok (.ireturn, 1) := by decide +kernel
theorem dX6_rent_0 : decode cX6_rent 0 = .ok (.iload_n 3, 1) := by decide +kernel
theorem dX6_rent_1 : decode cX6_rent 1 = .ok (.aload_n 0, 1) := by decide +kernel
theorem dX6_rent_2 : decode cX6_rent 2 = .ok (.getfield 7, 3) := by decide +kernel
theorem dX6_rent_5 : decode cX6_rent 5 = .ok (.iconst 5, 1) := by decide +kernel
theorem dX6_rent_6 : decode cX6_rent 6 = .ok (.iload_n 1, 1) := by decide +kernel
theorem dX6_rent_7 : decode cX6_rent 7 = .ok (.iadd, 1) := by decide +kernel
theorem dX6_rent_8 : decode cX6_rent 8 = .ok (.iaload, 1) := by decide +kernel
theorem dX6_rent_9 : decode cX6_rent 9 = .ok (.imul, 1) := by decide +kernel
theorem dX6_rent_10 : decode cX6_rent 10 = .ok (.iload 4, 2) := by decide +kernel
theorem dX6_rent_12 : decode cX6_rent 12 = .ok (.imul, 1) := by decide +kernel
theorem dX6_rent_13 : decode cX6_rent 13 = .ok (.bipush 100, 2) := by decide +kernel
theorem dX6_rent_15 : decode cX6_rent 15 = .ok (.idiv, 1) := by decide +kernel
theorem dX6_rent_16 : decode cX6_rent 16 = .ok (.istore 5, 2) := by decide +kernel
theorem dX6_rent_18 : decode cX6_rent 18 = .ok (.iload_n 2, 1) := by decide +kernel
theorem dX6_rent_19 : decode cX6_rent 19 = .ok (.iconst 4, 1) := by decide +kernel
theorem dX6_rent_20 : decode cX6_rent 20 = .ok (.if_icmp .le 21, 3) := by decide +kernel
theorem dX6_rent_23 : decode cX6_rent 23 = .ok (.iload 5, 2) := by decide +kernel
theorem dX6_rent_25 : decode cX6_rent 25 = .ok (.bipush 100, 2) := by decide +kernel
theorem dX6_rent_27 : decode cX6_rent 27 = .ok (.aload_n 0, 1) := by decide +kernel
theorem dX6_rent_28 : decode cX6_rent 28 = .ok (.getfield 7, 3) := by decide +kernel
theorem dX6_rent_31 : decode cX6_rent 31 = .ok (.iconst 2, 1) := by decide +kernel
theorem dX6_rent_32 : decode cX6_rent 32 = .ok (.iaload, 1) := by decide +kernel
theorem dX6_rent_33 : decode cX6_rent 33 = .ok (.iadd, 1) := by decide +kernel
theorem dX6_rent_34 : decode cX6_rent 34 = .ok (.imul, 1) := by decide +kernel
theorem dX6_rent_35 : decode cX6_rent 35 = .ok (.bipush 100, 2) := by decide +kernel
theorem dX6_rent_37 : decode cX6_rent 37 = .ok (.idiv, 1) := by decide +kernel
theorem dX6_rent_38 : decode cX6_rent 38 = .ok (.goto 5, 3) := by decide +kernel
theorem dX6_rent_41 : decode cX6_rent 41 = .ok (.iload 5, 2) := by decide +kernel
theorem dX6_rent_43 : decode cX6_rent 43 = .ok (.ireturn, 1) := by decide +kernel
theorem dX6_singleRent_0 : decode cX6_singleRent 0 = .ok (.aload_n 0, 1) := by decide +kernel
theorem dX6_singleRent_1 : decode cX6_singleRent 1 = .ok (.iload_n 1, 1) := by decide +kernel
theorem dX6_singleRent_2 : decode cX6_singleRent 2 = .ok (.iload_n 2, 1) := by decide +kernel
theorem dX6_singleRent_3 : decode cX6_singleRent 3 = .ok (.bipush 7, 2) := by decide +kernel
theorem dX6_singleRent_5 : decode cX6_singleRent 5 = .ok (.irem, 1) := by decide +kernel
theorem dX6_singleRent_6 : decode cX6_singleRent 6 = .ok (.iload 4, 2) := by decide +kernel
theorem dX6_singleRent_8 : decode cX6_singleRent 8 = .ok (.iload_n 3, 1) := by decide +kernel
theorem dX6_singleRent_9 : decode cX6_singleRent 9 = .ok (.isub, 1) := by decide +kernel
theorem dX6_singleRent_10 : decode cX6_singleRent 10 = .ok (.bipush 100, 2) := by decide +kernel
theorem dX6_singleRent_12 : decode cX6_singleRent 12 = .ok (.invokevirtual 100, 3) := by decide +kernel
theorem dX6_singleRent_15 : decode cX6_singleRent 15 = .ok (.ireturn, 1) := by decide +kernel
theorem dX6_regularRent_0 : decode cX6_regularRent 0 = .ok (.aload_n 0, 1) := by decide +kernel
theorem dX6_regularRent_1 : decode cX6_regularRent 1 = .ok (.iload_n 1, 1) := by decide +kernel
theorem dX6_regularRent_2 : decode cX6_regularRent 2 = .ok (.iload_n 2, 1) := by decide +kernel
theorem dX6_regularRent_3 : decode cX6_regularRent 3 = .ok (.iload 4, 2) := by decide +kernel
theorem dX6_regularRent_5 : decode cX6_regularRent 5 = .ok (.iload_n 3, 1) := by decide +kernel
theorem dX6_regularRent_6 : decode cX6_regularRent 6 = .ok (.isub, 1) := by decide +kernel
theorem dX6_regularRent_7 : decode cX6_regularRent 7 = .ok (.bipush 100, 2) := by decide +kernel
theorem dX6_regularRent_9 : decode cX6_regularRent 9 = .ok (.aload_n 0, 1) := by decide +kernel
theorem dX6_regularRent_10 : decode cX6_regularRent 10 = .ok (.getfield 7, 3) := by decide +kernel
theorem dX6_regularRent_13 : decode cX6_regularRent 13 = .ok (.iconst 1, 1) := by decide +kernel
theorem dX6_regularRent_14 : decode cX6_regularRent 14 = .ok (.iaload, 1) := by decide +kernel
theorem dX6_regularRent_15 : decode cX6_regularRent 15 = .ok (.isub, 1) := by decide +kernel
theorem dX6_regularRent_16 : decode cX6_regularRent 16 = .ok (.invokevirtual 100, 3) := by decide +kernel
theorem dX6_regularRent_19 : decode cX6_regularRent 19 = .ok (.ireturn, 1) := by decide +kernel
theorem dX6_removeSingle_0 : decode cX6_removeSingle 0 = .ok (.aload_n 0, 1) := by decide +kernel
theorem dX6_removeSingle_1 : decode cX6_removeSingle 1 = .ok (.getfield 7, 3) := by decide +kernel
theorem dX6_removeSingle_4 : decode cX6_removeSingle 4 = .ok (.bipush 92, 2) := by decide +kernel
theorem dX6_removeSingle_6 : decode cX6_removeSingle 6 = .ok (.dup2, 1) := by decide +kernel
theorem dX6_removeSingle_7 : decode cX6_removeSingle 7 = .ok (.iaload, 1) := by decide +kernel
theorem dX6_removeSingle_8 : decode cX6_removeSingle 8 = .ok (.iconst 1, 1) := by decide +kernel
theorem dX6_removeSingle_9 : decode cX6_removeSingle 9 = .ok (.isub, 1) := by decide +kernel
theorem dX6_removeSingle_10 : decode cX6_removeSingle 10 = .ok (.iastore, 1) := by decide +kernel
theorem dX6_removeSingle_11 : decode cX6_removeSingle 11 = .ok (.bipush 93, 2) := by decide +kernel
theorem dX6_removeSingle_13 : decode cX6_removeSingle 13 = .ok (.bipush 7, 2) := by decide +kernel
theorem dX6_removeSingle_15 : decode cX6_removeSingle 15 = .ok (.aload_n 0, 1) := by decide +kernel
theorem dX6_removeSingle_16 : decode cX6_removeSingle 16 = .ok (.getfield 7, 3) := by decide +kernel
theorem dX6_removeSingle_19 : decode cX6_removeSingle 19 = .ok (.bipush 92, 2) := by decide +kernel
theorem dX6_removeSingle_21 : decode cX6_removeSingle 21 = .ok (.iaload, 1) := by decide +kernel
theorem dX6_removeSingle_22 : decode cX6_removeSingle 22 = .ok (.imul, 1) := by decide +kernel
theorem dX6_removeSingle_23 : decode cX6_removeSingle 23 = .ok (.iadd, 1) := by decide +kernel
theorem dX6_removeSingle_24 : decode cX6_removeSingle 24 = .ok (.istore_n 2, 1) := by decide +kernel
theorem dX6_removeSingle_25 : decode cX6_removeSingle 25 = .ok (.bipush 93, 2) := by decide +kernel
theorem dX6_removeSingle_27 : decode cX6_removeSingle 27 = .ok (.bipush 7, 2) := by decide +kernel
theorem dX6_removeSingle_29 : decode cX6_removeSingle 29 = .ok (.iload_n 1, 1) := by decide +kernel
theorem dX6_removeSingle_30 : decode cX6_removeSingle 30 = .ok (.imul, 1) := by decide +kernel
theorem dX6_removeSingle_31 : decode cX6_removeSingle 31 = .ok (.iadd, 1) := by decide +kernel
theorem dX6_removeSingle_32 : decode cX6_removeSingle 32 = .ok (.istore_n 3, 1) := by decide +kernel
theorem dX6_removeSingle_33 : decode cX6_removeSingle 33 = .ok (.iload_n 3, 1) := by decide +kernel
theorem dX6_removeSingle_34 : decode cX6_removeSingle 34 = .ok (.iload_n 2, 1) := by decide +kernel
theorem dX6_removeSingle_35 : decode cX6_removeSingle 35 = .ok (.if_icmp .ge 24, 3) := by decide +kernel
theorem dX6_removeSingle_38 : decode cX6_removeSingle 38 = .ok (.aload_n 0, 1) := by decide +kernel
theorem dX6_removeSingle_39 : decode cX6_removeSingle 39 = .ok (.getfield 7, 3) := by decide +kernel
theorem dX6_removeSingle_42 : decode cX6_removeSingle 42 = .ok (.iload_n 3, 1) := by decide +kernel
theorem dX6_removeSingle_43 : decode cX6_removeSingle 43 = .ok (.aload_n 0, 1) := by decide +kernel
theorem dX6_removeSingle_44 : decode cX6_removeSingle 44 = .ok (.getfield 7, 3) := by decide +kernel
theorem dX6_removeSingle_47 : decode cX6_removeSingle 47 = .ok (.iload_n 3, 1) := by decide +kernel
theorem dX6_removeSingle_48 : decode cX6_removeSingle 48 = .ok (.bipush 7, 2) := by decide +kernel
theorem dX6_removeSingle_50 : decode cX6_removeSingle 50 = .ok (.iadd, 1) := by decide +kernel
theorem dX6_removeSingle_51 : decode cX6_removeSingle 51 = .ok (.iaload, 1) := by decide +kernel
theorem dX6_removeSingle_52 : decode cX6_removeSingle 52 = .ok (.iastore, 1) := by decide +kernel
theorem dX6_removeSingle_53 : decode cX6_removeSingle 53 = .ok (.iinc 3 1, 3) := by decide +kernel
theorem dX6_removeSingle_56 : decode cX6_removeSingle 56 = .ok (.goto (-23), 3) := by decide +kernel
theorem dX6_removeSingle_59 : decode cX6_removeSingle 59 = .ok (.iload_n 2, 1) := by decide +kernel
theorem dX6_removeSingle_60 : decode cX6_removeSingle 60 = .ok (.istore_n 3, 1) := by decide +kernel
theorem dX6_removeSingle_61 : decode cX6_removeSingle 61 = .ok (.iload_n 3, 1) := by decide +kernel
theorem dX6_removeSingle_62 : decode cX6_removeSingle 62 = .ok (.iload_n 2, 1) := by decide +kernel
theorem dX6_removeSingle_63 : decode cX6_removeSingle 63 = .ok (.bipush 7, 2) := by decide +kernel
theorem dX6_removeSingle_65 : decode cX6_removeSingle 65 = .ok (.iadd, 1) := by decide +kernel
theorem dX6_removeSingle_66 : decode cX6_removeSingle 66 = .ok (.if_icmp .ge 16, 3) := by decide +kernel
theorem dX6_removeSingle_69 : decode cX6_removeSingle 69 = .ok (.aload_n 0, 1) := by decide +kernel
theorem dX6_removeSingle_70 : decode cX6_removeSingle 70 = .ok (.getfield 7, 3) := by decide +kernel
theorem dX6_removeSingle_73 : decode cX6_removeSingle 73 = .ok (.iload_n 3, 1) := by decide +kernel
theorem dX6_removeSingle_74 : decode cX6_removeSingle 74 = .ok (.iconst 0, 1) := by decide +kernel
theorem dX6_removeSingle_75 : decode cX6_removeSingle 75 = .ok (.iastore, 1) := by decide +kernel
theorem dX6_removeSingle_76 : decode cX6_removeSingle 76 = .ok (.iinc 3 1, 3) := by decide +kernel
theorem dX6_removeSingle_79 : decode cX6_removeSingle 79 = .ok (.goto (-18), 3) := by decide +kernel
theorem dX6_removeSingle_82 : decode cX6_removeSingle 82 = .ok (.return_, 1) := by decide +kernel
theorem dX6_removeRegular_0 : decode cX6_removeRegular 0 = .ok (.aload_n 0, 1) := by decide +kernel
theorem dX6_removeRegular_1 : decode cX6_removeRegular 1 = .ok (.getfield 7, 3) := by decide +kernel
theorem dX6_removeRegular_4 : decode cX6_removeRegular 4 = .ok (.bipush 11, 2) := by decide +kernel
theorem dX6_removeRegular_6 : decode cX6_removeRegular 6 = .ok (.dup2, 1) := by decide +kernel
theorem dX6_removeRegular_7 : decode cX6_removeRegular 7 = .ok (.iaload, 1) := by decide +kernel
theorem dX6_removeRegular_8 : decode cX6_removeRegular 8 = .ok (.iconst 1, 1) := by decide +kernel
theorem dX6_removeRegular_9 : decode cX6_removeRegular 9 = .ok (.isub, 1) := by decide +kernel
theorem dX6_removeRegular_10 : decode cX6_removeRegular 10 = .ok (.iastore, 1) := by decide +kernel
theorem dX6_removeRegular_11 : decode cX6_removeRegular 11 = .ok (.bipush 12, 2) := by decide +kernel
theorem dX6_removeRegular_13 : decode cX6_removeRegular 13 = .ok (.bipush 10, 2) := by decide +kernel
theorem dX6_removeRegular_15 : decode cX6_removeRegular 15 = .ok (.aload_n 0, 1) := by decide +kernel
theorem dX6_removeRegular_16 : decode cX6_removeRegular 16 = .ok (.getfield 7, 3) := by decide +kernel
theorem dX6_removeRegular_19 : decode cX6_removeRegular 19 = .ok (.bipush 11, 2) := by decide +kernel
theorem dX6_removeRegular_21 : decode cX6_removeRegular 21 = .ok (.iaload, 1) := by decide +kernel
theorem dX6_removeRegular_22 : decode cX6_removeRegular 22 = .ok (.imul, 1) := by decide +kernel
theorem dX6_removeRegular_23 : decode cX6_removeRegular 23 = .ok (.iadd, 1) := by decide +kernel
theorem dX6_removeRegular_24 : decode cX6_removeRegular 24 = .ok (.istore_n 2, 1) := by decide +kernel
theorem dX6_removeRegular_25 : decode cX6_removeRegular 25 = .ok (.bipush 12, 2) := by decide +kernel
theorem dX6_removeRegular_27 : decode cX6_removeRegular 27 = .ok (.bipush 10, 2) := by decide +kernel
theorem dX6_removeRegular_29 : decode cX6_removeRegular 29 = .ok (.iload_n 1, 1) := by decide +kernel
theorem dX6_removeRegular_30 : decode cX6_removeRegular 30 = .ok (.imul, 1) := by decide +kernel
theorem dX6_removeRegular_31 : decode cX6_removeRegular 31 = .ok (.iadd, 1) := by decide +kernel
theorem dX6_removeRegular_32 : decode cX6_removeRegular 32 = .ok (.istore_n 3, 1) := by decide +kernel
theorem dX6_removeRegular_33 : decode cX6_removeRegular 33 = .ok (.iload_n 3, 1) := by decide +kernel
theorem dX6_removeRegular_34 : decode cX6_removeRegular 34 = .ok (.iload_n 2, 1) := by decide +kernel
theorem dX6_removeRegular_35 : decode cX6_removeRegular 35 = .ok (.if_icmp .ge 24, 3) := by decide +kernel
theorem dX6_removeRegular_38 : decode cX6_removeRegular 38 = .ok (.aload_n 0, 1) := by decide +kernel
theorem dX6_removeRegular_39 : decode cX6_removeRegular 39 = .ok (.getfield 7, 3) := by decide +kernel
theorem dX6_removeRegular_42 : decode cX6_removeRegular 42 = .ok (.iload_n 3, 1) := by decide +kernel
theorem dX6_removeRegular_43 : decode cX6_removeRegular 43 = .ok (.aload_n 0, 1) := by decide +kernel
theorem dX6_removeRegular_44 : decode cX6_removeRegular 44 = .ok (.getfield 7, 3) := by decide +kernel
theorem dX6_removeRegular_47 : decode cX6_removeRegular 47 = .ok (.iload_n 3, 1) := by decide +kernel
theorem dX6_removeRegular_48 : decode cX6_removeRegular 48 = .ok (.bipush 10, 2) := by decide +kernel
theorem dX6_removeRegular_50 : decode cX6_removeRegular 50 = .ok (.iadd, 1) := by decide +kernel
theorem dX6_removeRegular_51 : decode cX6_removeRegular 51 = .ok (.iaload, 1) := by decide +kernel
theorem dX6_removeRegular_52 : decode cX6_removeRegular 52 = .ok (.iastore, 1) := by decide +kernel
theorem dX6_removeRegular_53 : decode cX6_removeRegular 53 = .ok (.iinc 3 1, 3) := by decide +kernel
theorem dX6_removeRegular_56 : decode cX6_removeRegular 56 = .ok (.goto (-23), 3) := by decide +kernel
theorem dX6_removeRegular_59 : decode cX6_removeRegular 59 = .ok (.iload_n 2, 1) := by decide +kernel
theorem dX6_removeRegular_60 : decode cX6_removeRegular 60 = .ok (.istore_n 3, 1) := by decide +kernel
theorem dX6_removeRegular_61 : decode cX6_removeRegular 61 = .ok (.iload_n 3, 1) := by decide +kernel
theorem dX6_removeRegular_62 : decode cX6_removeRegular 62 = .ok (.iload_n 2, 1) := by decide +kernel
theorem dX6_removeRegular_63 : decode cX6_removeRegular 63 = .ok (.bipush 10, 2) := by decide +kernel
theorem dX6_removeRegular_65 : decode cX6_removeRegular 65 = .ok (.iadd, 1) := by decide +kernel
theorem dX6_removeRegular_66 : decode cX6_removeRegular 66 = .ok (.if_icmp .ge 16, 3) := by decide +kernel
theorem dX6_removeRegular_69 : decode cX6_removeRegular 69 = .ok (.aload_n 0, 1) := by decide +kernel
theorem dX6_removeRegular_70 : decode cX6_removeRegular 70 = .ok (.getfield 7, 3) := by decide +kernel
theorem dX6_removeRegular_73 : decode cX6_removeRegular 73 = .ok (.iload_n 3, 1) := by decide +kernel
theorem dX6_removeRegular_74 : decode cX6_removeRegular 74 = .ok (.iconst 0, 1) := by decide +kernel
theorem dX6_removeRegular_75 : decode cX6_removeRegular 75 = .ok (.iastore, 1) := by decide +kernel
theorem dX6_removeRegular_76 : decode cX6_removeRegular 76 = .ok (.iinc 3 1, 3) := by decide +kernel
theorem dX6_removeRegular_79 : decode cX6_removeRegular 79 = .ok (.goto (-18), 3) := by decide +kernel
theorem dX6_removeRegular_82 : decode cX6_removeRegular 82 = .ok (.return_, 1) := by decide +kernel
theorem dX6_giveWay_0 : decode cX6_giveWay 0 = .ok (.aload_n 0, 1) := by decide +kernel
theorem dX6_giveWay_1 : decode cX6_giveWay 1 = .ok (.iload_n 2, 1) := by decide +kernel
theorem dX6_giveWay_2 : decode cX6_giveWay 2 = .ok (.invokevirtual 80, 3) := by decide +kernel
theorem dX6_giveWay_5 : decode cX6_giveWay 5 = .ok (.iconst 0, 1) := by decide +kernel
theorem dX6_giveWay_6 : decode cX6_giveWay 6 = .ok (.istore 5, 2) := by decide +kernel
theorem dX6_giveWay_8 : decode cX6_giveWay 8 = .ok (.aload_n 0, 1) := by decide +kernel
theorem dX6_giveWay_9 : decode cX6_giveWay 9 = .ok (.getfield 67, 3) := by decide +kernel
theorem dX6_giveWay_12 : decode cX6_giveWay 12 = .ok (.iconst 1, 1) := by decide +kernel
theorem dX6_giveWay_13 : decode cX6_giveWay 13 = .ok (.isub, 1) := by decide +kernel
theorem dX6_giveWay_14 : decode cX6_giveWay 14 = .ok (.istore 6, 2) := by decide +kernel
theorem dX6_giveWay_16 : decode cX6_giveWay 16 = .ok (.iload 6, 2) := by decide +kernel
theorem dX6_giveWay_18 : decode cX6_giveWay 18 = .ok (.ifCond .lt 106, 3) := by decide +kernel
theorem dX6_giveWay_21 : decode cX6_giveWay 21 = .ok (.aload_n 0, 1) := by decide +kernel
theorem dX6_giveWay_22 : decode cX6_giveWay 22 = .ok (.iload 6, 2) := by decide +kernel
theorem dX6_giveWay_24 : decode cX6_giveWay 24 = .ok (.iload_n 1, 1) := by decide +kernel
theorem dX6_giveWay_25 : decode cX6_giveWay 25 = .ok (.iload_n 3, 1) := by decide +kernel
theorem dX6_giveWay_26 : decode cX6_giveWay 26 = .ok (.iload 4, 2) := by decide +kernel
theorem dX6_giveWay_28 : decode cX6_giveWay 28 = .ok (.invokevirtual 84, 3) := by decide +kernel
theorem dX6_giveWay_31 : decode cX6_giveWay 31 = .ok (.ifCond .eq 87, 3) := by decide +kernel
theorem dX6_giveWay_34 : decode cX6_giveWay 34 = .ok (.aload_n 0, 1) := by decide +kernel
theorem dX6_giveWay_35 : decode cX6_giveWay 35 = .ok (.getfield 7, 3) := by decide +kernel
theorem dX6_giveWay_38 : decode cX6_giveWay 38 = .ok (.bipush 9, 2) := by decide +kernel
theorem dX6_giveWay_40 : decode cX6_giveWay 40 = .ok (.dup2, 1) := by decide +kernel
theorem dX6_giveWay_41 : decode cX6_giveWay 41 = .ok (.iaload, 1) := by decide +kernel
theorem dX6_giveWay_42 : decode cX6_giveWay 42 = .ok (.aload_n 0, 1) := by decide +kernel
theorem dX6_giveWay_43 : decode cX6_giveWay 43 = .ok (.getfield 7, 3) := by decide +kernel
theorem dX6_giveWay_46 : decode cX6_giveWay 46 = .ok (.aload_n 0, 1) := by decide +kernel
theorem dX6_giveWay_47 : decode cX6_giveWay 47 = .ok (.getfield 19, 3) := by decide +kernel
theorem dX6_giveWay_50 : decode cX6_giveWay 50 = .ok (.iload 6, 2) := by decide +kernel
theorem dX6_giveWay_52 : decode cX6_giveWay 52 = .ok (.iaload, 1) := by decide +kernel
theorem dX6_giveWay_53 : decode cX6_giveWay 53 = .ok (.bipush 6, 2) := by decide +kernel
theorem dX6_giveWay_55 : decode cX6_giveWay 55 = .ok (.iadd, 1) := by decide +kernel
theorem dX6_giveWay_56 : decode cX6_giveWay 56 = .ok (.iaload, 1) := by decide +kernel
theorem dX6_giveWay_57 : decode cX6_giveWay 57 = .ok (.iadd, 1) := by decide +kernel
theorem dX6_giveWay_58 : decode cX6_giveWay 58 = .ok (.iastore, 1) := by decide +kernel
theorem dX6_giveWay_59 : decode cX6_giveWay 59 = .ok (.iinc 5 1, 3) := by decide +kernel
theorem dX6_giveWay_62 : decode cX6_giveWay 62 = .ok (.aload_n 0, 1) := by decide +kernel
theorem dX6_giveWay_63 : decode cX6_giveWay 63 = .ok (.getfield 19, 3) := by decide +kernel
theorem dX6_giveWay_66 : decode cX6_giveWay 66 = .ok (.iload 6, 2) := by decide +kernel
theorem dX6_giveWay_68 : decode cX6_giveWay 68 = .ok (.iaload, 1) := by decide +kernel
theorem dX6_giveWay_69 : decode cX6_giveWay 69 = .ok (.bipush 93, 2) := by decide +kernel
theorem dX6_giveWay_71 : decode cX6_giveWay 71 = .ok (.if_icmp .lt 23, 3) := by decide +kernel
theorem dX6_giveWay_74 : decode cX6_giveWay 74 = .ok (.aload_n 0, 1) := by decide +kernel
theorem dX6_giveWay_75 : decode cX6_giveWay 75 = .ok (.aload_n 0, 1) := by decide +kernel
theorem dX6_giveWay_76 : decode cX6_giveWay 76 = .ok (.getfield 19, 3) := by decide +kernel
theorem dX6_giveWay_79 : decode cX6_giveWay 79 = .ok (.iload 6, 2) := by decide +kernel
theorem dX6_giveWay_81 : decode cX6_giveWay 81 = .ok (.iaload, 1) := by decide +kernel
theorem dX6_giveWay_82 : decode cX6_giveWay 82 = .ok (.bipush 93, 2) := by decide +kernel
theorem dX6_giveWay_84 : decode cX6_giveWay 84 = .ok (.isub, 1) := by decide +kernel
theorem dX6_giveWay_85 : decode cX6_giveWay 85 = .ok (.bipush 7, 2) := by decide +kernel
theorem dX6_giveWay_87 : decode cX6_giveWay 87 = .ok (.idiv, 1) := by decide +kernel
theorem dX6_giveWay_88 : decode cX6_giveWay 88 = .ok (.invokevirtual 104, 3) := by decide +kernel
theorem dX6_giveWay_91 : decode cX6_giveWay 91 = .ok (.goto 27, 3) := by decide +kernel
theorem dX6_giveWay_94 : decode cX6_giveWay 94 = .ok (.aload_n 0, 1) := by decide +kernel
theorem dX6_giveWay_95 : decode cX6_giveWay 95 = .ok (.getfield 7, 3) := by decide +kernel
theorem dX6_giveWay_98 : decode cX6_giveWay 98 = .ok (.aload_n 0, 1) := by decide +kernel
theorem dX6_giveWay_99 : decode cX6_giveWay 99 = .ok (.getfield 19, 3) := by decide +kernel
theorem dX6_giveWay_102 : decode cX6_giveWay 102 = .ok (.iload 6, 2) := by decide +kernel
theorem dX6_giveWay_104 : decode cX6_giveWay 104 = .ok (.iaload, 1) := by decide +kernel
theorem dX6_giveWay_105 : decode cX6_giveWay 105 = .ok (.bipush 9, 2) := by decide +kernel
theorem dX6_giveWay_107 : decode cX6_giveWay 107 = .ok (.iadd, 1) := by decide +kernel
theorem dX6_giveWay_108 : decode cX6_giveWay 108 = .ok (.dup2, 1) := by decide +kernel
theorem dX6_giveWay_109 : decode cX6_giveWay 109 = .ok (.iaload, 1) := by decide +kernel
theorem dX6_giveWay_110 : decode cX6_giveWay 110 = .ok (.iconst 1, 1) := by decide +kernel
theorem dX6_giveWay_111 : decode cX6_giveWay 111 = .ok (.iload_n 2, 1) := by decide +kernel
theorem dX6_giveWay_112 : decode cX6_giveWay 112 = .ok (.bipush 7, 2) := by decide +kernel
theorem dX6_giveWay_114 : decode cX6_giveWay 114 = .ok (.idiv, 1) := by decide +kernel
theorem dX6_giveWay_115 : decode cX6_giveWay 115 = .ok (.ishl, 1) := by decide +kernel
theorem dX6_giveWay_116 : decode cX6_giveWay 116 = .ok (.ior, 1) := by decide +kernel
theorem dX6_giveWay_117 : decode cX6_giveWay 117 = .ok (.iastore, 1) := by decide +kernel
theorem dX6_giveWay_118 : decode cX6_giveWay 118 = .ok (.iinc 6 (-1), 3) := by decide +kernel
theorem dX6_giveWay_121 : decode cX6_giveWay 121 = .ok (.goto (-105), 3) := by decide +kernel
theorem dX6_giveWay_124 : decode cX6_giveWay 124 = .ok (.aload_n 0, 1) := by decide +kernel
theorem dX6_giveWay_125 : decode cX6_giveWay 125 = .ok (.getfield 7, 3) := by decide +kernel
theorem dX6_giveWay_128 : decode cX6_giveWay 128 = .ok (.bipush 10, 2) := by decide +kernel
theorem dX6_giveWay_130 : decode cX6_giveWay 130 = .ok (.dup2, 1) := by decide +kernel
theorem dX6_giveWay_131 : decode cX6_giveWay 131 = .ok (.iaload, 1) := by decide +kernel
theorem dX6_giveWay_132 : decode cX6_giveWay 132 = .ok (.iload 5, 2) := by decide +kernel
theorem dX6_giveWay_134 : decode cX6_giveWay 134 = .ok (.iadd, 1) := by decide +kernel
theorem dX6_giveWay_135 : decode cX6_giveWay 135 = .ok (.iastore, 1) := by decide +kernel
theorem dX6_giveWay_136 : decode cX6_giveWay 136 = .ok (.iload 5, 2) := by decide +kernel
theorem dX6_giveWay_138 : decode cX6_giveWay 138 = .ok (.ireturn, 1) := by decide +kernel
theorem dX6_lay_0 : decode cX6_lay 0 = .ok (.aload_n 0, 1) := by decide +kernel
theorem dX6_lay_1 : decode cX6_lay 1 = .ok (.getfield 7, 3) := by decide +kernel
theorem dX6_lay_4 : decode cX6_lay 4 = .ok (.iload_n 1, 1) := by decide +kernel
theorem dX6_lay_5 : decode cX6_lay 5 = .ok (.iconst 0, 1) := by decide +kernel
theorem dX6_lay_6 : decode cX6_lay 6 = .ok (.iadd, 1) := by decide +kernel
theorem dX6_lay_7 : decode cX6_lay 7 = .ok (.iload_n 2, 1) := by decide +kernel
theorem dX6_lay_8 : decode cX6_lay 8 = .ok (.iastore, 1) := by decide +kernel
theorem dX6_lay_9 : decode cX6_lay 9 = .ok (.aload_n 0, 1) := by decide +kernel
theorem dX6_lay_10 : decode cX6_lay 10 = .ok (.getfield 7, 3) := by decide +kernel
theorem dX6_lay_13 : decode cX6_lay 13 = .ok (.iload_n 1, 1) := by decide +kernel
theorem dX6_lay_14 : decode cX6_lay 14 = .ok (.iconst 1, 1) := by decide +kernel
theorem dX6_lay_15 : decode cX6_lay 15 = .ok (.iadd, 1) := by decide +kernel
theorem dX6_lay_16 : decode cX6_lay 16 = .ok (.iload_n 3, 1) := by decide +kernel
theorem dX6_lay_17 : decode cX6_lay 17 = .ok (.iastore, 1) := by decide +kernel
theorem dX6_lay_18 : decode cX6_lay 18 = .ok (.aload_n 0, 1) := by decide +kernel
theorem dX6_lay_19 : decode cX6_lay 19 = .ok (.getfield 7, 3) := by decide +kernel
theorem dX6_lay_22 : decode cX6_lay 22 = .ok (.iload_n 1, 1) := by decide +kernel
theorem dX6_lay_23 : decode cX6_lay 23 = .ok (.iconst 2, 1) := by decide +kernel
theorem dX6_lay_24 : decode cX6_lay 24 = .ok (.iadd, 1) := by decide +kernel
theorem dX6_lay_25 : decode cX6_lay 25 = .ok (.iload 4, 2) := by decide +kernel
theorem dX6_lay_27 : decode cX6_lay 27 = .ok (.iastore, 1) := by decide +kernel
theorem dX6_lay_28 : decode cX6_lay 28 = .ok (.aload_n 0, 1) := by decide +kernel
theorem dX6_lay_29 : decode cX6_lay 29 = .ok (.getfield 7, 3) := by decide +kernel
theorem dX6_lay_32 : decode cX6_lay 32 = .ok (.iload_n 1, 1) := by decide +kernel
theorem dX6_lay_33 : decode cX6_lay 33 = .ok (.iconst 3, 1) := by decide +kernel
theorem dX6_lay_34 : decode cX6_lay 34 = .ok (.iadd, 1) := by decide +kernel
theorem dX6_lay_35 : decode cX6_lay 35 = .ok (.iload 5, 2) := by decide +kernel
theorem dX6_lay_37 : decode cX6_lay 37 = .ok (.iastore, 1) := by decide +kernel
theorem dX6_lay_38 : decode cX6_lay 38 = .ok (.aload_n 0, 1) := by decide +kernel
theorem dX6_lay_39 : decode cX6_lay 39 = .ok (.getfield 7, 3) := by decide +kernel
theorem dX6_lay_42 : decode cX6_lay 42 = .ok (.iload_n 1, 1) := by decide +kernel
theorem dX6_lay_43 : decode cX6_lay 43 = .ok (.iconst 4, 1) := by decide +kernel
theorem dX6_lay_44 : decode cX6_lay 44 = .ok (.iadd, 1) := by decide +kernel
theorem dX6_lay_45 : decode cX6_lay 45 = .ok (.iload 6, 2) := by decide +kernel
theorem dX6_lay_47 : decode cX6_lay 47 = .ok (.iastore, 1) := by decide +kernel
theorem dX6_lay_48 : decode cX6_lay 48 = .ok (.aload_n 0, 1) := by decide +kernel
theorem dX6_lay_49 : decode cX6_lay 49 = .ok (.getfield 7, 3) := by decide +kernel
theorem dX6_lay_52 : decode cX6_lay 52 = .ok (.iload_n 1, 1) := by decide +kernel
theorem dX6_lay_53 : decode cX6_lay 53 = .ok (.iconst 5, 1) := by decide +kernel
theorem dX6_lay_54 : decode cX6_lay 54 = .ok (.iadd, 1) := by decide +kernel
theorem dX6_lay_55 : decode cX6_lay 55 = .ok (.iload 7, 2) := by decide +kernel
theorem dX6_lay_57 : decode cX6_lay 57 = .ok (.iastore, 1) := by decide +kernel
theorem dX6_lay_58 : decode cX6_lay 58 = .ok (.return_, 1) := by decide +kernel
theorem dX6_makeSingle_0 : decode cX6_makeSingle 0 = .ok (.aload_n 0, 1) := by decide +kernel
theorem dX6_makeSingle_1 : decode cX6_makeSingle 1 = .ok (.iload_n 1, 1) := by decide +kernel
theorem dX6_makeSingle_2 : decode cX6_makeSingle 2 = .ok (.iload_n 2, 1) := by decide +kernel
theorem dX6_makeSingle_3 : decode cX6_makeSingle 3 = .ok (.iload_n 3, 1) := by decide +kernel
theorem dX6_makeSingle_4 : decode cX6_makeSingle 4 = .ok (.iload 4, 2) := by decide +kernel
theorem dX6_makeSingle_6 : decode cX6_makeSingle 6 = .ok (.invokevirtual 107, 3) := by decide +kernel
theorem dX6_makeSingle_9 : decode cX6_makeSingle 9 = .ok (.istore 7, 2) := by decide +kernel
theorem dX6_makeSingle_11 : decode cX6_makeSingle 11 = .ok (.bipush 93, 2) := by decide +kernel
theorem dX6_makeSingle_13 : decode cX6_makeSingle 13 = .ok (.bipush 7, 2) := by decide +kernel
theorem dX6_makeSingle_15 : decode cX6_makeSingle 15 = .ok (.aload_n 0, 1) := by decide +kernel
theorem dX6_makeSingle_16 : decode cX6_makeSingle 16 = .ok (.getfield 7, 3) := by decide +kernel
theorem dX6_makeSingle_19 : decode cX6_makeSingle 19 = .ok (.bipush 92, 2) := by decide +kernel
theorem dX6_makeSingle_21 : decode cX6_makeSingle 21 = .ok (.iaload, 1) := by decide +kernel
theorem dX6_makeSingle_22 : decode cX6_makeSingle 22 = .ok (.imul, 1) := by decide +kernel
theorem dX6_makeSingle_23 : decode cX6_makeSingle 23 = .ok (.iadd, 1) := by decide +kernel
theorem dX6_makeSingle_24 : decode cX6_makeSingle 24 = .ok (.istore 8, 2) := by decide +kernel
theorem dX6_makeSingle_26 : decode cX6_makeSingle 26 = .ok (.aload_n 0, 1) := by decide +kernel
theorem dX6_makeSingle_27 : decode cX6_makeSingle 27 = .ok (.iload 8, 2) := by decide +kernel
theorem dX6_makeSingle_29 : decode cX6_makeSingle 29 = .ok (.iload_n 1, 1) := by decide +kernel
theorem dX6_makeSingle_30 : decode cX6_makeSingle 30 = .ok (.iload_n 2, 1) := by decide +kernel
theorem dX6_makeSingle_31 : decode cX6_makeSingle 31 = .ok (.iload_n 3, 1) := by decide +kernel
theorem dX6_makeSingle_32 : decode cX6_makeSingle 32 = .ok (.iload 4, 2) := by decide +kernel
theorem dX6_makeSingle_34 : decode cX6_makeSingle 34 = .ok (.iload 5, 2) := by decide +kernel
theorem dX6_makeSingle_36 : decode cX6_makeSingle 36 = .ok (.iload 6, 2) := by decide +kernel
theorem dX6_makeSingle_38 : decode cX6_makeSingle 38 = .ok (.invokevirtual 110, 3) := by decide +kernel
theorem dX6_makeSingle_41 : decode cX6_makeSingle 41 = .ok (.aload_n 0, 1) := by decide +kernel
theorem dX6_makeSingle_42 : decode cX6_makeSingle 42 = .ok (.getfield 7, 3) := by decide +kernel
theorem dX6_makeSingle_45 : decode cX6_makeSingle 45 = .ok (.iload 8, 2) := by decide +kernel
theorem dX6_makeSingle_47 : decode cX6_makeSingle 47 = .ok (.bipush 6, 2) := by decide +kernel
theorem dX6_makeSingle_49 : decode cX6_makeSingle 49 = .ok (.iadd, 1) := by decide +kernel
theorem dX6_makeSingle_50 : decode cX6_makeSingle 50 = .ok (.aload_n 0, 1) := by decide +kernel
theorem dX6_makeSingle_51 : decode cX6_makeSingle 51 = .ok (.iload_n 1, 1) := by decide +kernel
theorem dX6_makeSingle_52 : decode cX6_makeSingle 52 = .ok (.iload_n 2, 1) := by decide +kernel
theorem dX6_makeSingle_53 : decode cX6_makeSingle 53 = .ok (.iload_n 3, 1) := by decide +kernel
theorem dX6_makeSingle_54 : decode cX6_makeSingle 54 = .ok (.iload 4, 2) := by decide +kernel
theorem dX6_makeSingle_56 : decode cX6_makeSingle 56 = .ok (.invokevirtual 114, 3) := by decide +kernel
theorem dX6_makeSingle_59 : decode cX6_makeSingle 59 = .ok (.iastore, 1) := by decide +kernel
theorem dX6_makeSingle_60 : decode cX6_makeSingle 60 = .ok (.aload_n 0, 1) := by decide +kernel
theorem dX6_makeSingle_61 : decode cX6_makeSingle 61 = .ok (.getfield 7, 3) := by decide +kernel
theorem dX6_makeSingle_64 : decode cX6_makeSingle 64 = .ok (.bipush 8, 2) := by decide +kernel
theorem dX6_makeSingle_66 : decode cX6_makeSingle 66 = .ok (.dup2, 1) := by decide +kernel
theorem dX6_makeSingle_67 : decode cX6_makeSingle 67 = .ok (.iaload, 1) := by decide +kernel
theorem dX6_makeSingle_68 : decode cX6_makeSingle 68 = .ok (.aload_n 0, 1) := by decide +kernel
theorem dX6_makeSingle_69 : decode cX6_makeSingle 69 = .ok (.getfield 7, 3) := by decide +kernel
theorem dX6_makeSingle_72 : decode cX6_makeSingle 72 = .ok (.iload 8, 2) := by decide +kernel
theorem dX6_makeSingle_74 : decode cX6_makeSingle 74 = .ok (.bipush 6, 2) := by decide +kernel
theorem dX6_makeSingle_76 : decode cX6_makeSingle 76 = .ok (.iadd, 1) := by decide +kernel
theorem dX6_makeSingle_77 : decode cX6_makeSingle 77 = .ok (.iaload, 1) := by decide +kernel
theorem dX6_makeSingle_78 : decode cX6_makeSingle 78 = .ok (.iadd, 1) := by decide +kernel
theorem dX6_makeSingle_79 : decode cX6_makeSingle 79 = .ok (.iastore, 1) := by decide +kernel
theorem dX6_makeSingle_80 : decode cX6_makeSingle 80 = .ok (.aload_n 0, 1) := by decide +kernel
theorem dX6_makeSingle_81 : decode cX6_makeSingle 81 = .ok (.getfield 7, 3) := by decide +kernel
theorem dX6_makeSingle_84 : decode cX6_makeSingle 84 = .ok (.bipush 92, 2) := by decide +kernel
theorem dX6_makeSingle_86 : decode cX6_makeSingle 86 = .ok (.dup2, 1) := by decide +kernel
theorem dX6_makeSingle_87 : decode cX6_makeSingle 87 = .ok (.iaload, 1) := by decide +kernel
theorem dX6_makeSingle_88 : decode cX6_makeSingle 88 = .ok (.iconst 1, 1) := by decide +kernel
theorem dX6_makeSingle_89 : decode cX6_makeSingle 89 = .ok (.iadd, 1) := by decide +kernel
theorem dX6_makeSingle_90 : decode cX6_makeSingle 90 = .ok (.iastore, 1) := by decide +kernel
theorem dX6_makeSingle_91 : decode cX6_makeSingle 91 = .ok (.iload 7, 2) := by decide +kernel
theorem dX6_makeSingle_93 : decode cX6_makeSingle 93 = .ok (.ireturn, 1) := by decide +kernel
theorem dX6_single_0 : decode cX6_single 0 = .ok (.aload_n 0, 1) := by decide +kernel
theorem dX6_single_1 : decode cX6_single 1 = .ok (.iconst 0, 1) := by decide +kernel
theorem dX6_single_2 : decode cX6_single 2 = .ok (.putfield 37, 3) := by decide +kernel
theorem dX6_single_5 : decode cX6_single 5 = .ok (.iload_n 1, 1) := by decide +kernel
theorem dX6_single_6 : decode cX6_single 6 = .ok (.invokestatic 117, 3) := by decide +kernel
theorem dX6_single_9 : decode cX6_single 9 = .ok (.ifCond .ne 9, 3) := by decide +kernel
theorem dX6_single_12 : decode cX6_single 12 = .ok (.aload_n 0, 1) := by decide +kernel
theorem dX6_single_13 : decode cX6_single 13 = .ok (.iconst 1, 1) := by decide +kernel
theorem dX6_single_14 : decode cX6_single 14 = .ok (.invokevirtual 48, 3) := by decide +kernel
theorem dX6_single_17 : decode cX6_single 17 = .ok (.ireturn, 1) := by decide +kernel
theorem dX6_single_18 : decode cX6_single 18 = .ok (.iload_n 2, 1) := by decide +kernel
theorem dX6_single_19 : decode cX6_single 19 = .ok (.invokestatic 121, 3) := by decide +kernel
theorem dX6_single_22 : decode cX6_single 22 = .ok (.ifCond .eq 22, 3) := by decide +kernel
theorem dX6_single_25 : decode cX6_single 25 = .ok (.iload_n 3, 1) := by decide +kernel
theorem dX6_single_26 : decode cX6_single 26 = .ok (.iload 4, 2) := by decide +kernel
theorem dX6_single_28 : decode cX6_single 28 = .ok (.invokestatic 124, 3) := by decide +kernel
theorem dX6_single_31 : decode cX6_single 31 = .ok (.ifCond .eq 13, 3) := by decide +kernel
theorem dX6_single_34 : decode cX6_single 34 = .ok (.iload 5, 2) := by decide +kernel
theorem dX6_single_36 : decode cX6_single 36 = .ok (.iload 6, 2) := by decide +kernel
theorem dX6_single_38 : decode cX6_single 38 = .ok (.invokestatic 127, 3) := by decide +kernel
theorem dX6_single_41 : decode cX6_single 41 = .ok (.ifCond .ne 9, 3) := by decide +kernel
theorem dX6_single_44 : decode cX6_single 44 = .ok (.aload_n 0, 1) := by decide +kernel
theorem dX6_single_45 : decode cX6_single 45 = .ok (.iconst 2, 1) := by decide +kernel
theorem dX6_single_46 : decode cX6_single 46 = .ok (.invokevirtual 48, 3) := by decide +kernel
theorem dX6_single_49 : decode cX6_single 49 = .ok (.ireturn, 1) := by decide +kernel
theorem dX6_single_50 : decode cX6_single 50 = .ok (.aload_n 0, 1) := by decide +kernel
theorem dX6_single_51 : decode cX6_single 51 = .ok (.iload_n 1, 1) := by decide +kernel
theorem dX6_single_52 : decode cX6_single 52 = .ok (.iload_n 2, 1) := by decide +kernel
theorem dX6_single_53 : decode cX6_single 53 = .ok (.iload_n 3, 1) := by decide +kernel
theorem dX6_single_54 : decode cX6_single 54 = .ok (.iload 4, 2) := by decide +kernel
theorem dX6_single_56 : decode cX6_single 56 = .ok (.iload 5, 2) := by decide +kernel
theorem dX6_single_58 : decode cX6_single 58 = .ok (.invokevirtual 130, 3) := by decide +kernel
theorem dX6_single_61 : decode cX6_single 61 = .ok (.ifCond .le 9, 3) := by decide +kernel
theorem dX6_single_64 : decode cX6_single 64 = .ok (.aload_n 0, 1) := by decide +kernel
theorem dX6_single_65 : decode cX6_single 65 = .ok (.iconst 3, 1) := by decide +kernel
theorem dX6_single_66 : decode cX6_single 66 = .ok (.invokevirtual 48, 3) := by decide +kernel
theorem dX6_single_69 : decode cX6_single 69 = .ok (.ireturn, 1) := by decide +kernel
theorem dX6_single_70 : decode cX6_single 70 = .ok (.aload_n 0, 1) := by decide +kernel
theorem dX6_single_71 : decode cX6_single 71 = .ok (.invokevirtual 60, 3) := by decide +kernel
theorem dX6_single_74 : decode cX6_single 74 = .ok (.aload_n 0, 1) := by decide +kernel
theorem dX6_single_75 : decode cX6_single 75 = .ok (.iload_n 1, 1) := by decide +kernel
theorem dX6_single_76 : decode cX6_single 76 = .ok (.iload_n 2, 1) := by decide +kernel
theorem dX6_single_77 : decode cX6_single 77 = .ok (.iload_n 3, 1) := by decide +kernel
theorem dX6_single_78 : decode cX6_single 78 = .ok (.iload 4, 2) := by decide +kernel
theorem dX6_single_80 : decode cX6_single 80 = .ok (.iload 5, 2) := by decide +kernel
theorem dX6_single_82 : decode cX6_single 82 = .ok (.iload 6, 2) := by decide +kernel
theorem dX6_single_84 : decode cX6_single 84 = .ok (.invokevirtual 133, 3) := by decide +kernel
theorem dX6_single_87 : decode cX6_single 87 = .ok (.ireturn, 1) := by decide +kernel
theorem dX6_offWeeks_0 : decode cX6_offWeeks 0 = .ok (.iconst 0, 1) := by decide +kernel
theorem dX6_offWeeks_1 : decode cX6_offWeeks 1 = .ok (.istore 6, 2) := by decide +kernel
theorem dX6_offWeeks_3 : decode cX6_offWeeks 3 = .ok (.aload_n 0, 1) := by decide +kernel
theorem dX6_offWeeks_4 : decode cX6_offWeeks 4 = .ok (.getfield 7, 3) := by decide +kernel
theorem dX6_offWeeks_7 : decode cX6_offWeeks 7 = .ok (.iconst 3, 1) := by decide +kernel
theorem dX6_offWeeks_8 : decode cX6_offWeeks 8 = .ok (.iaload, 1) := by decide +kernel
theorem dX6_offWeeks_9 : decode cX6_offWeeks 9 = .ok (.istore 7, 2) := by decide +kernel
theorem dX6_offWeeks_11 : decode cX6_offWeeks 11 = .ok (.iload 7, 2) := by decide +kernel
theorem dX6_offWeeks_13 : decode cX6_offWeeks 13 = .ok (.aload_n 0, 1) := by decide +kernel
theorem dX6_offWeeks_14 : decode cX6_offWeeks 14 = .ok (.getfield 7, 3) := by decide +kernel
theorem dX6_offWeeks_17 : decode cX6_offWeeks 17 = .ok (.iconst 4, 1) := by decide +kernel
theorem dX6_offWeeks_18 : decode cX6_offWeeks 18 = .ok (.iaload, 1) := by decide +kernel
theorem dX6_offWeeks_19 : decode cX6_offWeeks 19 = .ok (.if_icmp .gt 42, 3) := by decide +kernel
theorem dX6_offWeeks_22 : decode cX6_offWeeks 22 = .ok (.iload 6, 2) := by decide +kernel
theorem dX6_offWeeks_24 : decode cX6_offWeeks 24 = .ok (.aload_n 0, 1) := by decide +kernel
theorem dX6_offWeeks_25 : decode cX6_offWeeks 25 = .ok (.iload_n 1, 1) := by decide +kernel
theorem dX6_offWeeks_26 : decode cX6_offWeeks 26 = .ok (.bipush 7, 2) := by decide +kernel
theorem dX6_offWeeks_28 : decode cX6_offWeeks 28 = .ok (.iload 7, 2) := by decide +kernel
theorem dX6_offWeeks_30 : decode cX6_offWeeks 30 = .ok (.imul, 1) := by decide +kernel
theorem dX6_offWeeks_31 : decode cX6_offWeeks 31 = .ok (.iload_n 2, 1) := by decide +kernel
theorem dX6_offWeeks_32 : decode cX6_offWeeks 32 = .ok (.iadd, 1) := by decide +kernel
theorem dX6_offWeeks_33 : decode cX6_offWeeks 33 = .ok (.iload_n 3, 1) := by decide +kernel
theorem dX6_offWeeks_34 : decode cX6_offWeeks 34 = .ok (.iload 4, 2) := by decide +kernel
theorem dX6_offWeeks_36 : decode cX6_offWeeks 36 = .ok (.iload 5, 2) := by decide +kernel
theorem dX6_offWeeks_38 : decode cX6_offWeeks 38 = .ok (.invokevirtual 96, 3) := by decide +kernel
theorem dX6_offWeeks_41 : decode cX6_offWeeks 41 = .ok (.ifCond .le 10, 3) := by decide +kernel
theorem dX6_offWeeks_44 : decode cX6_offWeeks 44 = .ok (.iconst 1, 1) := by decide +kernel
theorem dX6_offWeeks_45 : decode cX6_offWeeks 45 = .ok (.iload 7, 2) := by decide +kernel
theorem dX6_offWeeks_47 : decode cX6_offWeeks 47 = .ok (.ishl, 1) := by decide +kernel
theorem dX6_offWeeks_48 : decode cX6_offWeeks 48 = .ok (.goto 4, 3) := by decide +kernel
theorem dX6_offWeeks_51 : decode cX6_offWeeks 51 = .ok (.iconst 0, 1) := by decide +kernel
theorem dX6_offWeeks_52 : decode cX6_offWeeks 52 = .ok (.ior, 1) := by decide +kernel
theorem dX6_offWeeks_53 : decode cX6_offWeeks 53 = .ok (.istore 6, 2) := by decide +kernel
theorem dX6_offWeeks_55 : decode cX6_offWeeks 55 = .ok (.iinc 7 1, 3) := by decide +kernel
theorem dX6_offWeeks_58 : decode cX6_offWeeks 58 = .ok (.goto (-47), 3) := by decide +kernel
theorem dX6_offWeeks_61 : decode cX6_offWeeks 61 = .ok (.iload 6, 2) := by decide +kernel
theorem dX6_offWeeks_63 : decode cX6_offWeeks 63 = .ok (.ireturn, 1) := by decide +kernel
theorem dX6_makeRegular_0 : decode cX6_makeRegular 0 = .ok (.aload_n 0, 1) := by decide +kernel
theorem dX6_makeRegular_1 : decode cX6_makeRegular 1 = .ok (.iload_n 1, 1) := by decide +kernel
theorem dX6_makeRegular_2 : decode cX6_makeRegular 2 = .ok (.iload_n 2, 1) := by decide +kernel
theorem dX6_makeRegular_3 : decode cX6_makeRegular 3 = .ok (.iload_n 3, 1) := by decide +kernel
theorem dX6_makeRegular_4 : decode cX6_makeRegular 4 = .ok (.iload 4, 2) := by decide +kernel
theorem dX6_makeRegular_6 : decode cX6_makeRegular 6 = .ok (.iload 5, 2) := by decide +kernel
theorem dX6_makeRegular_8 : decode cX6_makeRegular 8 = .ok (.invokevirtual 137, 3) := by decide +kernel
theorem dX6_makeRegular_11 : decode cX6_makeRegular 11 = .ok (.istore 7, 2) := by decide +kernel
theorem dX6_makeRegular_13 : decode cX6_makeRegular 13 = .ok (.iconst 0, 1) := by decide +kernel
theorem dX6_makeRegular_14 : decode cX6_makeRegular 14 = .ok (.istore 8, 2) := by decide +kernel
theorem dX6_makeRegular_16 : decode cX6_makeRegular 16 = .ok (.aload_n 0, 1) := by decide +kernel
theorem dX6_makeRegular_17 : decode cX6_makeRegular 17 = .ok (.getfield 7, 3) := by decide +kernel
theorem dX6_makeRegular_20 : decode cX6_makeRegular 20 = .ok (.iconst 3, 1) := by decide +kernel
theorem dX6_makeRegular_21 : decode cX6_makeRegular 21 = .ok (.iaload, 1) := by decide +kernel
theorem dX6_makeRegular_22 : decode cX6_makeRegular 22 = .ok (.istore 9, 2) := by decide +kernel
theorem dX6_makeRegular_24 : decode cX6_makeRegular 24 = .ok (.iload 9, 2) := by decide +kernel
theorem dX6_makeRegular_26 : decode cX6_makeRegular 26 = .ok (.aload_n 0, 1) := by decide +kernel
theorem dX6_makeRegular_27 : decode cX6_makeRegular 27 = .ok (.getfield 7, 3) := by decide +kernel
theorem dX6_makeRegular_30 : decode cX6_makeRegular 30 = .ok (.iconst 4, 1) := by decide +kernel
theorem dX6_makeRegular_31 : decode cX6_makeRegular 31 = .ok (.iaload, 1) := by decide +kernel
theorem dX6_makeRegular_32 : decode cX6_makeRegular 32 = .ok (.if_icmp .gt 39, 3) := by decide +kernel
theorem dX6_makeRegular_35 : decode cX6_makeRegular 35 = .ok (.iload 7, 2) := by decide +kernel
theorem dX6_makeRegular_37 : decode cX6_makeRegular 37 = .ok (.iload 9, 2) := by decide +kernel
theorem dX6_makeRegular_39 : decode cX6_makeRegular 39 = .ok (.ishr, 1) := by decide +kernel
theorem dX6_makeRegular_40 : decode cX6_makeRegular 40 = .ok (.iconst 1, 1) := by decide +kernel
theorem dX6_makeRegular_41 : decode cX6_makeRegular 41 = .ok (.iand, 1) := by decide +kernel
theorem dX6_makeRegular_42 : decode cX6_makeRegular 42 = .ok (.ifCond .ne 23, 3) := by decide +kernel
theorem dX6_makeRegular_45 : decode cX6_makeRegular 45 = .ok (.aload_n 0, 1) := by decide +kernel
theorem dX6_makeRegular_46 : decode cX6_makeRegular 46 = .ok (.iload_n 1, 1) := by decide +kernel
theorem dX6_makeRegular_47 : decode cX6_makeRegular 47 = .ok (.bipush 7, 2) := by decide +kernel
theorem dX6_makeRegular_49 : decode cX6_makeRegular 49 = .ok (.iload 9, 2) := by decide +kernel
theorem dX6_makeRegular_51 : decode cX6_makeRegular 51 = .ok (.imul, 1) := by decide +kernel
theorem dX6_makeRegular_52 : decode cX6_makeRegular 52 = .ok (.iload_n 2, 1) := by decide +kernel
theorem dX6_makeRegular_53 : decode cX6_makeRegular 53 = .ok (.iadd, 1) := by decide +kernel
theorem dX6_makeRegular_54 : decode cX6_makeRegular 54 = .ok (.iload_n 3, 1) := by decide +kernel
theorem dX6_makeRegular_55 : decode cX6_makeRegular 55 = .ok (.iload 4, 2) := by decide +kernel
theorem dX6_makeRegular_57 : decode cX6_makeRegular 57 = .ok (.invokevirtual 107, 3) := by decide +kernel
theorem dX6_makeRegular_60 : decode cX6_makeRegular 60 = .ok (.istore 10, 2) := by decide +kernel
theorem dX6_makeRegular_62 : decode cX6_makeRegular 62 = .ok (.iinc 8 1, 3) := by decide +kernel
theorem dX6_makeRegular_65 : decode cX6_makeRegular 65 = .ok (.iinc 9 1, 3) := by decide +kernel
theorem dX6_makeRegular_68 : decode cX6_makeRegular 68 = .ok (.goto (-44), 3) := by decide +kernel
theorem dX6_makeRegular_71 : decode cX6_makeRegular 71 = .ok (.bipush 12, 2) := by decide +kernel
theorem dX6_makeRegular_73 : decode cX6_makeRegular 73 = .ok (.bipush 10, 2) := by decide +kernel
theorem dX6_makeRegular_75 : decode cX6_makeRegular 75 = .ok (.aload_n 0, 1) := by decide +kernel
theorem dX6_makeRegular_76 : decode cX6_makeRegular 76 = .ok (.getfield 7, 3) := by decide +kernel
theorem dX6_makeRegular_79 : decode cX6_makeRegular 79 = .ok (.bipush 11, 2) := by decide +kernel
theorem dX6_makeRegular_81 : decode cX6_makeRegular 81 = .ok (.iaload, 1) := by decide +kernel
theorem dX6_makeRegular_82 : decode cX6_makeRegular 82 = .ok (.imul, 1) := by decide +kernel
theorem dX6_makeRegular_83 : decode cX6_makeRegular 83 = .ok (.iadd, 1) := by decide +kernel
theorem dX6_makeRegular_84 : decode cX6_makeRegular 84 = .ok (.istore 9, 2) := by decide +kernel
theorem dX6_makeRegular_86 : decode cX6_makeRegular 86 = .ok (.aload_n 0, 1) := by decide +kernel
theorem dX6_makeRegular_87 : decode cX6_makeRegular 87 = .ok (.iload 9, 2) := by decide +kernel
theorem dX6_makeRegular_89 : decode cX6_makeRegular 89 = .ok (.iload_n 1, 1) := by decide +kernel
theorem dX6_makeRegular_90 : decode cX6_makeRegular 90 = .ok (.iload_n 2, 1) := by decide +kernel
theorem dX6_makeRegular_91 : decode cX6_makeRegular 91 = .ok (.iload_n 3, 1) := by decide +kernel
theorem dX6_makeRegular_92 : decode cX6_makeRegular 92 = .ok (.iload 4, 2) := by decide +kernel
theorem dX6_makeRegular_94 : decode cX6_makeRegular 94 = .ok (.iload 5, 2) := by decide +kernel
theorem dX6_makeRegular_96 : decode cX6_makeRegular 96 = .ok (.iload 6, 2) := by decide +kernel
theorem dX6_makeRegular_98 : decode cX6_makeRegular 98 = .ok (.invokevirtual 110, 3) := by decide +kernel
theorem dX6_makeRegular_101 : decode cX6_makeRegular 101 = .ok (.aload_n 0, 1) := by decide +kernel
theorem dX6_makeRegular_102 : decode cX6_makeRegular 102 = .ok (.getfield 7, 3) := by decide +kernel
theorem dX6_makeRegular_105 : decode cX6_makeRegular 105 = .ok (.iload 9, 2) := by decide +kernel
theorem dX6_makeRegular_107 : decode cX6_makeRegular 107 = .ok (.bipush 6, 2) := by decide +kernel
theorem dX6_makeRegular_109 : decode cX6_makeRegular 109 = .ok (.iadd, 1) := by decide +kernel
theorem dX6_makeRegular_110 : decode cX6_makeRegular 110 = .ok (.aload_n 0, 1) := by decide +kernel
theorem dX6_makeRegular_111 : decode cX6_makeRegular 111 = .ok (.iload_n 1, 1) := by decide +kernel
theorem dX6_makeRegular_112 : decode cX6_makeRegular 112 = .ok (.iload_n 2, 1) := by decide +kernel
theorem dX6_makeRegular_113 : decode cX6_makeRegular 113 = .ok (.iload_n 3, 1) := by decide +kernel
theorem dX6_makeRegular_114 : decode cX6_makeRegular 114 = .ok (.iload 4, 2) := by decide +kernel
theorem dX6_makeRegular_116 : decode cX6_makeRegular 116 = .ok (.invokevirtual 140, 3) := by decide +kernel
theorem dX6_makeRegular_119 : decode cX6_makeRegular 119 = .ok (.iastore, 1) := by decide +kernel
theorem dX6_makeRegular_120 : decode cX6_makeRegular 120 = .ok (.aload_n 0, 1) := by decide +kernel
theorem dX6_makeRegular_121 : decode cX6_makeRegular 121 = .ok (.getfield 7, 3) := by decide +kernel
theorem dX6_makeRegular_124 : decode cX6_makeRegular 124 = .ok (.iload 9, 2) := by decide +kernel
theorem dX6_makeRegular_126 : decode cX6_makeRegular 126 = .ok (.bipush 7, 2) := by decide +kernel
theorem dX6_makeRegular_128 : decode cX6_makeRegular 128 = .ok (.iadd, 1) := by decide +kernel
theorem dX6_makeRegular_129 : decode cX6_makeRegular 129 = .ok (.aload_n 0, 1) := by decide +kernel
theorem dX6_makeRegular_130 : decode cX6_makeRegular 130 = .ok (.getfield 7, 3) := by decide +kernel
theorem dX6_makeRegular_133 : decode cX6_makeRegular 133 = .ok (.iconst 3, 1) := by decide +kernel
theorem dX6_makeRegular_134 : decode cX6_makeRegular 134 = .ok (.iaload, 1) := by decide +kernel
theorem dX6_makeRegular_135 : decode cX6_makeRegular 135 = .ok (.iastore, 1) := by decide +kernel
theorem dX6_makeRegular_136 : decode cX6_makeRegular 136 = .ok (.aload_n 0, 1) := by decide +kernel
theorem dX6_makeRegular_137 : decode cX6_makeRegular 137 = .ok (.getfield 7, 3) := by decide +kernel
theorem dX6_makeRegular_140 : decode cX6_makeRegular 140 = .ok (.iload 9, 2) := by decide +kernel
theorem dX6_makeRegular_142 : decode cX6_makeRegular 142 = .ok (.bipush 8, 2) := by decide +kernel
theorem dX6_makeRegular_144 : decode cX6_makeRegular 144 = .ok (.iadd, 1) := by decide +kernel
theorem dX6_makeRegular_145 : decode cX6_makeRegular 145 = .ok (.aload_n 0, 1) := by decide +kernel
theorem dX6_makeRegular_146 : decode cX6_makeRegular 146 = .ok (.getfield 7, 3) := by decide +kernel
theorem dX6_makeRegular_149 : decode cX6_makeRegular 149 = .ok (.iconst 4, 1) := by decide +kernel
theorem dX6_makeRegular_150 : decode cX6_makeRegular 150 = .ok (.iaload, 1) := by decide +kernel
theorem dX6_makeRegular_151 : decode cX6_makeRegular 151 = .ok (.iastore, 1) := by decide +kernel
theorem dX6_makeRegular_152 : decode cX6_makeRegular 152 = .ok (.aload_n 0, 1) := by decide +kernel
theorem dX6_makeRegular_153 : decode cX6_makeRegular 153 = .ok (.getfield 7, 3) := by decide +kernel
theorem dX6_makeRegular_156 : decode cX6_makeRegular 156 = .ok (.iload 9, 2) := by decide +kernel
theorem dX6_makeRegular_158 : decode cX6_makeRegular 158 = .ok (.bipush 9, 2) := by decide +kernel
theorem dX6_makeRegular_160 : decode cX6_makeRegular 160 = .ok (.iadd, 1) := by decide +kernel
theorem dX6_makeRegular_161 : decode cX6_makeRegular 161 = .ok (.iload 7, 2) := by decide +kernel
theorem dX6_makeRegular_163 : decode cX6_makeRegular 163 = .ok (.iastore, 1) := by decide +kernel
theorem dX6_makeRegular_164 : decode cX6_makeRegular 164 = .ok (.aload_n 0, 1) := by decide +kernel
theorem dX6_makeRegular_165 : decode cX6_makeRegular 165 = .ok (.getfield 7, 3) := by decide +kernel
theorem dX6_makeRegular_168 : decode cX6_makeRegular 168 = .ok (.bipush 8, 2) := by decide +kernel
theorem dX6_makeRegular_170 : decode cX6_makeRegular 170 = .ok (.dup2, 1) := by decide +kernel
theorem dX6_makeRegular_171 : decode cX6_makeRegular 171 = .ok (.iaload, 1) := by decide +kernel
theorem dX6_makeRegular_172 : decode cX6_makeRegular 172 = .ok (.iload 8, 2) := by decide +kernel
theorem dX6_makeRegular_174 : decode cX6_makeRegular 174 = .ok (.aload_n 0, 1) := by decide +kernel
theorem dX6_makeRegular_175 : decode cX6_makeRegular 175 = .ok (.getfield 7, 3) := by decide +kernel
theorem dX6_makeRegular_178 : decode cX6_makeRegular 178 = .ok (.iload 9, 2) := by decide +kernel
theorem dX6_makeRegular_180 : decode cX6_makeRegular 180 = .ok (.bipush 6, 2) := by decide +kernel
theorem dX6_makeRegular_182 : decode cX6_makeRegular 182 = .ok (.iadd, 1) := by decide +kernel
theorem dX6_makeRegular_183 : decode cX6_makeRegular 183 = .ok (.iaload, 1) := by decide +kernel
theorem dX6_makeRegular_184 : decode cX6_makeRegular 184 = .ok (.imul, 1) := by decide +kernel
theorem dX6_makeRegular_185 : decode cX6_makeRegular 185 = .ok (.iadd, 1) := by decide +kernel
theorem dX6_makeRegular_186 : decode cX6_makeRegular 186 = .ok (.iastore, 1) := by decide +kernel
theorem dX6_makeRegular_187 : decode cX6_makeRegular 187 = .ok (.aload_n 0, 1) := by decide +kernel
theorem dX6_makeRegular_188 : decode cX6_makeRegular 188 = .ok (.getfield 7, 3) := by decide +kernel
theorem dX6_makeRegular_191 : decode cX6_makeRegular 191 = .ok (.bipush 11, 2) := by decide +kernel
theorem dX6_makeRegular_193 : decode cX6_makeRegular 193 = .ok (.dup2, 1) := by decide +kernel
theorem dX6_makeRegular_194 : decode cX6_makeRegular 194 = .ok (.iaload, 1) := by decide +kernel
theorem dX6_makeRegular_195 : decode cX6_makeRegular 195 = .ok (.iconst 1, 1) := by decide +kernel
theorem dX6_makeRegular_196 : decode cX6_makeRegular 196 = .ok (.iadd, 1) := by decide +kernel
theorem dX6_makeRegular_197 : decode cX6_makeRegular 197 = .ok (.iastore, 1) := by decide +kernel
theorem dX6_makeRegular_198 : decode cX6_makeRegular 198 = .ok (.iload 8, 2) := by decide +kernel
theorem dX6_makeRegular_200 : decode cX6_makeRegular 200 = .ok (.ireturn, 1) := by decide +kernel
theorem dX6_standsSomewhere_0 : decode cX6_standsSomewhere 0 = .ok (.iconst 0, 1) := by decide +kernel
theorem dX6_standsSomewhere_1 : decode cX6_standsSomewhere 1 = .ok (.istore_n 2, 1) := by decide +kernel
theorem dX6_standsSomewhere_2 : decode cX6_standsSomewhere 2 = .ok (.aload_n 0, 1) := by decide +kernel
theorem dX6_standsSomewhere_3 : decode cX6_standsSomewhere 3 = .ok (.getfield 7, 3) := by decide +kernel
theorem dX6_standsSomewhere_6 : decode cX6_standsSomewhere 6 = .ok (.iconst 3, 1) := by decide +kernel
theorem dX6_standsSomewhere_7 : decode cX6_standsSomewhere 7 = .ok (.iaload, 1) := by decide +kernel
theorem dX6_standsSomewhere_8 : decode cX6_standsSomewhere 8 = .ok (.istore_n 3, 1) := by decide +kernel
theorem dX6_standsSomewhere_9 : decode cX6_standsSomewhere 9 = .ok (.iload_n 3, 1) := by decide +kernel
theorem dX6_standsSomewhere_10 : decode cX6_standsSomewhere 10 = .ok (.aload_n 0, 1) := by decide +kernel
theorem dX6_standsSomewhere_11 : decode cX6_standsSomewhere 11 = .ok (.getfield 7, 3) := by decide +kernel
theorem dX6_standsSomewhere_14 : decode cX6_standsSomewhere 14 = .ok (.iconst 4, 1) := by decide +kernel
theorem dX6_standsSomewhere_15 : decode cX6_standsSomewhere 15 = .ok (.iaload, 1) := by decide +kernel
theorem dX6_standsSomewhere_16 : decode cX6_standsSomewhere 16 = .ok (.if_icmp .gt 27, 3) := by decide +kernel
theorem dX6_standsSomewhere_19 : decode cX6_standsSomewhere 19 = .ok (.iload_n 2, 1) := by decide +kernel
theorem dX6_standsSomewhere_20 : decode cX6_standsSomewhere 20 = .ok (.ifCond .ne 11, 3) := by decide +kernel
theorem dX6_standsSomewhere_23 : decode cX6_standsSomewhere 23 = .ok (.iload_n 1, 1) := by decide +kernel
theorem dX6_standsSomewhere_24 : decode cX6_standsSomewhere 24 = .ok (.iload_n 3, 1) := by decide +kernel
theorem dX6_standsSomewhere_25 : decode cX6_standsSomewhere 25 = .ok (.ishr, 1) := by decide +kernel
theorem dX6_standsSomewhere_26 : decode cX6_standsSomewhere 26 = .ok (.iconst 1, 1) := by decide +kernel
theorem dX6_standsSomewhere_27 : decode cX6_standsSomewhere 27 = .ok (.iand, 1) := by decide +kernel
theorem dX6_standsSomewhere_28 : decode cX6_standsSomewhere 28 = .ok (.ifCond .ne 7, 3) := by decide +kernel
theorem dX6_standsSomewhere_31 : decode cX6_standsSomewhere 31 = .ok (.iconst 1, 1) := by decide +kernel
theorem dX6_standsSomewhere_32 : decode cX6_standsSomewhere 32 = .ok (.goto 4, 3) := by decide +kernel
theorem dX6_standsSomewhere_35 : decode cX6_standsSomewhere 35 = .ok (.iconst 0, 1) := by decide +kernel
theorem dX6_standsSomewhere_36 : decode cX6_standsSomewhere 36 = .ok (.istore_n 2, 1) := by decide +kernel
theorem dX6_standsSomewhere_37 : decode cX6_standsSomewhere 37 = .ok (.iinc 3 1, 3) := by decide +kernel
theorem dX6_standsSomewhere_40 : decode cX6_standsSomewhere 40 = .ok (.goto (-31), 3) := by decide +kernel
theorem dX6_standsSomewhere_43 : decode cX6_standsSomewhere 43 = .ok (.iload_n 2, 1) := by decide +kernel
theorem dX6_standsSomewhere_44 : decode cX6_standsSomewhere 44 = .ok (.ireturn, 1) := by decide +kernel
theorem dX6_regular_0 : decode cX6_regular 0 = .ok (.aload_n 0, 1) := by decide +kernel
theorem dX6_regular_1 : decode cX6_regular 1 = .ok (.iconst 0, 1) := by decide +kernel
theorem dX6_regular_2 : decode cX6_regular 2 = .ok (.putfield 37, 3) := by decide +kernel
theorem dX6_regular_5 : decode cX6_regular 5 = .ok (.iload_n 1, 1) := by decide +kernel
theorem dX6_regular_6 : decode cX6_regular 6 = .ok (.invokestatic 117, 3) := by decide +kernel
theorem dX6_regular_9 : decode cX6_regular 9 = .ok (.ifCond .ne 9, 3) := by decide +kernel
theorem dX6_regular_12 : decode cX6_regular 12 = .ok (.aload_n 0, 1) := by decide +kernel
theorem dX6_regular_13 : decode cX6_regular 13 = .ok (.iconst 1, 1) := by decide +kernel
theorem dX6_regular_14 : decode cX6_regular 14 = .ok (.invokevirtual 48, 3) := by decide +kernel
theorem dX6_regular_17 : decode cX6_regular 17 = .ok (.ireturn, 1) := by decide +kernel
theorem dX6_regular_18 : decode cX6_regular 18 = .ok (.iload_n 2, 1) := by decide +kernel
theorem dX6_regular_19 : decode cX6_regular 19 = .ok (.iconst 0, 1) := by decide +kernel
theorem dX6_regular_20 : decode cX6_regular 20 = .ok (.bipush 6, 2) := by decide +kernel
theorem dX6_regular_22 : decode cX6_regular 22 = .ok (.invokestatic 41, 3) := by decide +kernel
theorem dX6_regular_25 : decode cX6_regular 25 = .ok (.ifCond .eq 22, 3) := by decide +kernel
theorem dX6_regular_28 : decode cX6_regular 28 = .ok (.iload_n 3, 1) := by decide +kernel
theorem dX6_regular_29 : decode cX6_regular 29 = .ok (.iload 4, 2) := by decide +kernel
theorem dX6_regular_31 : decode cX6_regular 31 = .ok (.invokestatic 124, 3) := by decide +kernel
theorem dX6_regular_34 : decode cX6_regular 34 = .ok (.ifCond .eq 13, 3) := by decide +kernel
theorem dX6_regular_37 : decode cX6_regular 37 = .ok (.iload 5, 2) := by decide +kernel
theorem dX6_regular_39 : decode cX6_regular 39 = .ok (.iload 6, 2) := by decide +kernel
theorem dX6_regular_41 : decode cX6_regular 41 = .ok (.invokestatic 127, 3) := by decide +kernel
theorem dX6_regular_44 : decode cX6_regular 44 = .ok (.ifCond .ne 9, 3) := by decide +kernel
theorem dX6_regular_47 : decode cX6_regular 47 = .ok (.aload_n 0, 1) := by decide +kernel
theorem dX6_regular_48 : decode cX6_regular 48 = .ok (.iconst 2, 1) := by decide +kernel
theorem dX6_regular_49 : decode cX6_regular 49 = .ok (.invokevirtual 48, 3) := by decide +kernel
theorem dX6_regular_52 : decode cX6_regular 52 = .ok (.ireturn, 1) := by decide +kernel
theorem dX6_regular_53 : decode cX6_regular 53 = .ok (.aload_n 0, 1) := by decide +kernel
theorem dX6_regular_54 : decode cX6_regular 54 = .ok (.getfield 7, 3) := by decide +kernel
theorem dX6_regular_57 : decode cX6_regular 57 = .ok (.bipush 11, 2) := by decide +kernel
theorem dX6_regular_59 : decode cX6_regular 59 = .ok (.iaload, 1) := by decide +kernel
theorem dX6_regular_60 : decode cX6_regular 60 = .ok (.bipush 8, 2) := by decide +kernel
theorem dX6_regular_62 : decode cX6_regular 62 = .ok (.if_icmp .eq 21, 3) := by decide +kernel
theorem dX6_regular_65 : decode cX6_regular 65 = .ok (.aload_n 0, 1) := by decide +kernel
theorem dX6_regular_66 : decode cX6_regular 66 = .ok (.aload_n 0, 1) := by decide +kernel
theorem dX6_regular_67 : decode cX6_regular 67 = .ok (.iload_n 1, 1) := by decide +kernel
theorem dX6_regular_68 : decode cX6_regular 68 = .ok (.iload_n 2, 1) := by decide +kernel
theorem dX6_regular_69 : decode cX6_regular 69 = .ok (.iload_n 3, 1) := by decide +kernel
theorem dX6_regular_70 : decode cX6_regular 70 = .ok (.iload 4, 2) := by decide +kernel
theorem dX6_regular_72 : decode cX6_regular 72 = .ok (.iload 5, 2) := by decide +kernel
theorem dX6_regular_74 : decode cX6_regular 74 = .ok (.invokevirtual 137, 3) := by decide +kernel
theorem dX6_regular_77 : decode cX6_regular 77 = .ok (.invokevirtual 143, 3) := by decide +kernel
theorem dX6_regular_80 : decode cX6_regular 80 = .ok (.ifCond .ne 9, 3) := by decide +kernel
theorem dX6_regular_83 : decode cX6_regular 83 = .ok (.aload_n 0, 1) := by decide +kernel
theorem dX6_regular_84 : decode cX6_regular 84 = .ok (.iconst 3, 1) := by decide +kernel
theorem dX6_regular_85 : decode cX6_regular 85 = .ok (.invokevirtual 48, 3) := by decide +kernel
theorem dX6_regular_88 : decode cX6_regular 88 = .ok (.ireturn, 1) := by decide +kernel
theorem dX6_regular_89 : decode cX6_regular 89 = .ok (.aload_n 0, 1) := by decide +kernel
theorem dX6_regular_90 : decode cX6_regular 90 = .ok (.invokevirtual 60, 3) := by decide +kernel
theorem dX6_regular_93 : decode cX6_regular 93 = .ok (.aload_n 0, 1) := by decide +kernel
theorem dX6_regular_94 : decode cX6_regular 94 = .ok (.iload_n 1, 1) := by decide +kernel
theorem dX6_regular_95 : decode cX6_regular 95 = .ok (.iload_n 2, 1) := by decide +kernel
theorem dX6_regular_96 : decode cX6_regular 96 = .ok (.iload_n 3, 1) := by decide +kernel
theorem dX6_regular_97 : decode cX6_regular 97 = .ok (.iload 4, 2) := by decide +kernel
theorem dX6_regular_99 : decode cX6_regular 99 = .ok (.iload 5, 2) := by decide +kernel
theorem dX6_regular_101 : decode cX6_regular 101 = .ok (.iload 6, 2) := by decide +kernel
theorem dX6_regular_103 : decode cX6_regular 103 = .ok (.invokevirtual 146, 3) := by decide +kernel
theorem dX6_regular_106 : decode cX6_regular 106 = .ok (.ireturn, 1) := by decide +kernel
theorem dX6_cancelRegular_0 : decode cX6_cancelRegular 0 = .ok (.aload_n 0, 1) := by decide +kernel
theorem dX6_cancelRegular_1 : decode cX6_cancelRegular 1 = .ok (.iload_n 1, 1) := by decide +kernel
theorem dX6_cancelRegular_2 : decode cX6_cancelRegular 2 = .ok (.invokevirtual 149, 3) := by decide +kernel
theorem dX6_cancelRegular_5 : decode cX6_cancelRegular 5 = .ok (.aload_n 0, 1) := by decide +kernel
theorem dX6_cancelRegular_6 : decode cX6_cancelRegular 6 = .ok (.iload_n 1, 1) := by decide +kernel
theorem dX6_cancelRegular_7 : decode cX6_cancelRegular 7 = .ok (.bipush 6, 2) := by decide +kernel
theorem dX6_cancelRegular_9 : decode cX6_cancelRegular 9 = .ok (.invokevirtual 63, 3) := by decide +kernel
theorem dX6_cancelRegular_12 : decode cX6_cancelRegular 12 = .ok (.imul, 1) := by decide +kernel
theorem dX6_cancelRegular_13 : decode cX6_cancelRegular 13 = .ok (.istore_n 2, 1) := by decide +kernel
theorem dX6_cancelRegular_14 : decode cX6_cancelRegular 14 = .ok (.aload_n 0, 1) := by decide +kernel
theorem dX6_cancelRegular_15 : decode cX6_cancelRegular 15 = .ok (.iload_n 1, 1) := by decide +kernel
theorem dX6_cancelRegular_16 : decode cX6_cancelRegular 16 = .ok (.invokevirtual 152, 3) := by decide +kernel
theorem dX6_cancelRegular_19 : decode cX6_cancelRegular 19 = .ok (.iload_n 2, 1) := by decide +kernel
theorem dX6_cancelRegular_20 : decode cX6_cancelRegular 20 = .ok (.ireturn, 1) := by decide +kernel
theorem dX6_cancelSingle_0 : decode cX6_cancelSingle 0 = .ok (.aload_n 0, 1) := by decide +kernel
theorem dX6_cancelSingle_1 : decode cX6_cancelSingle 1 = .ok (.iload_n 1, 1) := by decide +kernel
theorem dX6_cancelSingle_2 : decode cX6_cancelSingle 2 = .ok (.bipush 6, 2) := by decide +kernel
theorem dX6_cancelSingle_4 : decode cX6_cancelSingle 4 = .ok (.invokevirtual 74, 3) := by decide +kernel
theorem dX6_cancelSingle_7 : decode cX6_cancelSingle 7 = .ok (.istore_n 2, 1) := by decide +kernel
theorem dX6_cancelSingle_8 : decode cX6_cancelSingle 8 = .ok (.aload_n 0, 1) := by decide +kernel
theorem dX6_cancelSingle_9 : decode cX6_cancelSingle 9 = .ok (.iload_n 1, 1) := by decide +kernel
theorem dX6_cancelSingle_10 : decode cX6_cancelSingle 10 = .ok (.invokevirtual 104, 3) := by decide +kernel
theorem dX6_cancelSingle_13 : decode cX6_cancelSingle 13 = .ok (.iload_n 2, 1) := by decide +kernel
theorem dX6_cancelSingle_14 : decode cX6_cancelSingle 14 = .ok (.ireturn, 1) := by decide +kernel
theorem dX6_cancel_0 : decode cX6_cancel 0 = .ok (.aload_n 0, 1) := by decide +kernel
theorem dX6_cancel_1 : decode cX6_cancel 1 = .ok (.iconst 0, 1) := by decide +kernel
theorem dX6_cancel_2 : decode cX6_cancel 2 = .ok (.putfield 37, 3) := by decide +kernel
theorem dX6_cancel_5 : decode cX6_cancel 5 = .ok (.iload_n 2, 1) := by decide +kernel
theorem dX6_cancel_6 : decode cX6_cancel 6 = .ok (.iconst 0, 1) := by decide +kernel
theorem dX6_cancel_7 : decode cX6_cancel 7 = .ok (.iload_n 1, 1) := by decide +kernel
theorem dX6_cancel_8 : decode cX6_cancel 8 = .ok (.ifCond .eq 13, 3) := by decide +kernel
theorem dX6_cancel_11 : decode cX6_cancel 11 = .ok (.aload_n 0, 1) := by decide +kernel
theorem dX6_cancel_12 : decode cX6_cancel 12 = .ok (.getfield 7, 3) := by decide +kernel
theorem dX6_cancel_15 : decode cX6_cancel 15 = .ok (.bipush 11, 2) := by decide +kernel
theorem dX6_cancel_17 : decode cX6_cancel 17 = .ok (.iaload, 1) := by decide +kernel
theorem dX6_cancel_18 : decode cX6_cancel 18 = .ok (.goto 10, 3) := by decide +kernel
theorem dX6_cancel_21 : decode cX6_cancel 21 = .ok (.aload_n 0, 1) := by decide +kernel
theorem dX6_cancel_22 : decode cX6_cancel 22 = .ok (.getfield 7, 3) := by decide +kernel
theorem dX6_cancel_25 : decode cX6_cancel 25 = .ok (.bipush 92, 2) := by decide +kernel
theorem dX6_cancel_27 : decode cX6_cancel 27 = .ok (.iaload, 1) := by decide +kernel
theorem dX6_cancel_28 : decode cX6_cancel 28 = .ok (.iconst 1, 1) := by decide +kernel
theorem dX6_cancel_29 : decode cX6_cancel 29 = .ok (.isub, 1) := by decide +kernel
theorem dX6_cancel_30 : decode cX6_cancel 30 = .ok (.invokestatic 41, 3) := by decide +kernel
theorem dX6_cancel_33 : decode cX6_cancel 33 = .ok (.ifCond .ne 9, 3) := by decide +kernel
theorem dX6_cancel_36 : decode cX6_cancel 36 = .ok (.aload_n 0, 1) := by decide +kernel
theorem dX6_cancel_37 : decode cX6_cancel 37 = .ok (.iconst 1, 1) := by decide +kernel
theorem dX6_cancel_38 : decode cX6_cancel 38 = .ok (.invokevirtual 48, 3) := by decide +kernel
theorem dX6_cancel_41 : decode cX6_cancel 41 = .ok (.ireturn, 1) := by decide +kernel
theorem dX6_cancel_42 : decode cX6_cancel 42 = .ok (.aload_n 0, 1) := by decide +kernel
theorem dX6_cancel_43 : decode cX6_cancel 43 = .ok (.invokevirtual 60, 3) := by decide +kernel
theorem dX6_cancel_46 : decode cX6_cancel 46 = .ok (.iload_n 1, 1) := by decide +kernel
theorem dX6_cancel_47 : decode cX6_cancel 47 = .ok (.ifCond .eq 11, 3) := by decide +kernel
theorem dX6_cancel_50 : decode cX6_cancel 50 = .ok (.aload_n 0, 1) := by decide +kernel
theorem dX6_cancel_51 : decode cX6_cancel 51 = .ok (.iload_n 2, 1) := by decide +kernel
theorem dX6_cancel_52 : decode cX6_cancel 52 = .ok (.invokevirtual 155, 3) := by decide +kernel
theorem dX6_cancel_55 : decode cX6_cancel 55 = .ok (.goto 8, 3) := by decide +kernel
theorem dX6_cancel_58 : decode cX6_cancel 58 = .ok (.aload_n 0, 1) := by decide +kernel
theorem dX6_cancel_59 : decode cX6_cancel 59 = .ok (.iload_n 2, 1) := by decide +kernel
theorem dX6_cancel_60 : decode cX6_cancel 60 = .ok (.invokevirtual 158, 3) := by decide +kernel
theorem dX6_cancel_63 : decode cX6_cancel 63 = .ok (.istore_n 3, 1) := by decide +kernel
theorem dX6_cancel_64 : decode cX6_cancel 64 = .ok (.aload_n 0, 1) := by decide +kernel
theorem dX6_cancel_65 : decode cX6_cancel 65 = .ok (.getfield 7, 3) := by decide +kernel
theorem dX6_cancel_68 : decode cX6_cancel 68 = .ok (.bipush 9, 2) := by decide +kernel
theorem dX6_cancel_70 : decode cX6_cancel 70 = .ok (.dup2, 1) := by decide +kernel
theorem dX6_cancel_71 : decode cX6_cancel 71 = .ok (.iaload, 1) := by decide +kernel
theorem dX6_cancel_72 : decode cX6_cancel 72 = .ok (.iload_n 3, 1) := by decide +kernel
theorem dX6_cancel_73 : decode cX6_cancel 73 = .ok (.iadd, 1) := by decide +kernel
theorem dX6_cancel_74 : decode cX6_cancel 74 = .ok (.iastore, 1) := by decide +kernel
theorem dX6_cancel_75 : decode cX6_cancel 75 = .ok (.iload_n 3, 1) := by decide +kernel
theorem dX6_cancel_76 : decode cX6_cancel 76 = .ok (.ireturn, 1) := by decide +kernel
theorem dX6_off_0 : decode cX6_off 0 = .ok (.aload_n 0, 1) := by decide +kernel
theorem dX6_off_1 : decode cX6_off 1 = .ok (.iconst 0, 1) := by decide +kernel
theorem dX6_off_2 : decode cX6_off 2 = .ok (.putfield 37, 3) := by decide +kernel
theorem dX6_off_5 : decode cX6_off 5 = .ok (.iload_n 1, 1) := by decide +kernel
theorem dX6_off_6 : decode cX6_off 6 = .ok (.iconst 0, 1) := by decide +kernel
theorem dX6_off_7 : decode cX6_off 7 = .ok (.aload_n 0, 1) := by decide +kernel
theorem dX6_off_8 : decode cX6_off 8 = .ok (.getfield 7, 3) := by decide +kernel
theorem dX6_off_11 : decode cX6_off 11 = .ok (.bipush 11, 2) := by decide +kernel
theorem dX6_off_13 : decode cX6_off 13 = .ok (.iaload, 1) := by decide +kernel
theorem dX6_off_14 : decode cX6_off 14 = .ok (.iconst 1, 1) := by decide +kernel
theorem dX6_off_15 : decode cX6_off 15 = .ok (.isub, 1) := by decide +kernel
theorem dX6_off_16 : decode cX6_off 16 = .ok (.invokestatic 41, 3) := by decide +kernel
theorem dX6_off_19 : decode cX6_off 19 = .ok (.ifCond .ne 9, 3) := by decide +kernel
theorem dX6_off_22 : decode cX6_off 22 = .ok (.aload_n 0, 1) := by decide +kernel
theorem dX6_off_23 : decode cX6_off 23 = .ok (.iconst 1, 1) := by decide +kernel
theorem dX6_off_24 : decode cX6_off 24 = .ok (.invokevirtual 48, 3) := by decide +kernel
theorem dX6_off_27 : decode cX6_off 27 = .ok (.ireturn, 1) := by decide +kernel
theorem dX6_off_28 : decode cX6_off 28 = .ok (.iload_n 2, 1) := by decide +kernel
theorem dX6_off_29 : decode cX6_off 29 = .ok (.invokestatic 121, 3) := by decide +kernel
theorem dX6_off_32 : decode cX6_off 32 = .ok (.ifCond .ne 9, 3) := by decide +kernel
theorem dX6_off_35 : decode cX6_off 35 = .ok (.aload_n 0, 1) := by decide +kernel
theorem dX6_off_36 : decode cX6_off 36 = .ok (.iconst 2, 1) := by decide +kernel
theorem dX6_off_37 : decode cX6_off 37 = .ok (.invokevirtual 48, 3) := by decide +kernel
theorem dX6_off_40 : decode cX6_off 40 = .ok (.ireturn, 1) := by decide +kernel
theorem dX6_off_41 : decode cX6_off 41 = .ok (.aload_n 0, 1) := by decide +kernel
theorem dX6_off_42 : decode cX6_off 42 = .ok (.iload_n 1, 1) := by decide +kernel
theorem dX6_off_43 : decode cX6_off 43 = .ok (.iload_n 2, 1) := by decide +kernel
theorem dX6_off_44 : decode cX6_off 44 = .ok (.invokevirtual 70, 3) := by decide +kernel
theorem dX6_off_47 : decode cX6_off 47 = .ok (.ifCond .ne 9, 3) := by decide +kernel
theorem dX6_off_50 : decode cX6_off 50 = .ok (.aload_n 0, 1) := by decide +kernel
theorem dX6_off_51 : decode cX6_off 51 = .ok (.iconst 3, 1) := by decide +kernel
theorem dX6_off_52 : decode cX6_off 52 = .ok (.invokevirtual 48, 3) := by decide +kernel
theorem dX6_off_55 : decode cX6_off 55 = .ok (.ireturn, 1) := by decide +kernel
theorem dX6_off_56 : decode cX6_off 56 = .ok (.aload_n 0, 1) := by decide +kernel
theorem dX6_off_57 : decode cX6_off 57 = .ok (.invokevirtual 60, 3) := by decide +kernel
theorem dX6_off_60 : decode cX6_off 60 = .ok (.aload_n 0, 1) := by decide +kernel
theorem dX6_off_61 : decode cX6_off 61 = .ok (.getfield 7, 3) := by decide +kernel
theorem dX6_off_64 : decode cX6_off 64 = .ok (.bipush 12, 2) := by decide +kernel
theorem dX6_off_66 : decode cX6_off 66 = .ok (.bipush 10, 2) := by decide +kernel
theorem dX6_off_68 : decode cX6_off 68 = .ok (.iload_n 1, 1) := by decide +kernel
theorem dX6_off_69 : decode cX6_off 69 = .ok (.imul, 1) := by decide +kernel
theorem dX6_off_70 : decode cX6_off 70 = .ok (.iadd, 1) := by decide +kernel
theorem dX6_off_71 : decode cX6_off 71 = .ok (.bipush 9, 2) := by decide +kernel
theorem dX6_off_73 : decode cX6_off 73 = .ok (.iadd, 1) := by decide +kernel
theorem dX6_off_74 : decode cX6_off 74 = .ok (.dup2, 1) := by decide +kernel
theorem dX6_off_75 : decode cX6_off 75 = .ok (.iaload, 1) := by decide +kernel
theorem dX6_off_76 : decode cX6_off 76 = .ok (.iconst 1, 1) := by decide +kernel
theorem dX6_off_77 : decode cX6_off 77 = .ok (.iload_n 2, 1) := by decide +kernel
theorem dX6_off_78 : decode cX6_off 78 = .ok (.bipush 7, 2) := by decide +kernel
theorem dX6_off_80 : decode cX6_off 80 = .ok (.idiv, 1) := by decide +kernel
theorem dX6_off_81 : decode cX6_off 81 = .ok (.ishl, 1) := by decide +kernel
theorem dX6_off_82 : decode cX6_off 82 = .ok (.ior, 1) := by decide +kernel
theorem dX6_off_83 : decode cX6_off 83 = .ok (.iastore, 1) := by decide +kernel
theorem dX6_off_84 : decode cX6_off 84 = .ok (.aload_n 0, 1) := by decide +kernel
theorem dX6_off_85 : decode cX6_off 85 = .ok (.getfield 7, 3) := by decide +kernel
theorem dX6_off_88 : decode cX6_off 88 = .ok (.bipush 9, 2) := by decide +kernel
theorem dX6_off_90 : decode cX6_off 90 = .ok (.dup2, 1) := by decide +kernel
theorem dX6_off_91 : decode cX6_off 91 = .ok (.iaload, 1) := by decide +kernel
theorem dX6_off_92 : decode cX6_off 92 = .ok (.aload_n 0, 1) := by decide +kernel
theorem dX6_off_93 : decode cX6_off 93 = .ok (.iload_n 1, 1) := by decide +kernel
theorem dX6_off_94 : decode cX6_off 94 = .ok (.bipush 6, 2) := by decide +kernel
theorem dX6_off_96 : decode cX6_off 96 = .ok (.invokevirtual 63, 3) := by decide +kernel
theorem dX6_off_99 : decode cX6_off 99 = .ok (.iadd, 1) := by decide +kernel
theorem dX6_off_100 : decode cX6_off 100 = .ok (.iastore, 1) := by decide +kernel
theorem dX6_off_101 : decode cX6_off 101 = .ok (.aload_n 0, 1) := by decide +kernel
theorem dX6_off_102 : decode cX6_off 102 = .ok (.iload_n 1, 1) := by decide +kernel
theorem dX6_off_103 : decode cX6_off 103 = .ok (.bipush 6, 2) := by decide +kernel
theorem dX6_off_105 : decode cX6_off 105 = .ok (.invokevirtual 63, 3) := by decide +kernel
theorem dX6_off_108 : decode cX6_off 108 = .ok (.ireturn, 1) := by decide +kernel
theorem dX6_rate_0 : decode cX6_rate 0 = .ok (.aload_n 0, 1) := by decide +kernel
theorem dX6_rate_1 : decode cX6_rate 1 = .ok (.iconst 0, 1) := by decide +kernel
theorem dX6_rate_2 : decode cX6_rate 2 = .ok (.putfield 37, 3) := by decide +kernel
theorem dX6_rate_5 : decode cX6_rate 5 = .ok (.iload_n 1, 1) := by decide +kernel
theorem dX6_rate_6 : decode cX6_rate 6 = .ok (.invokestatic 117, 3) := by decide +kernel
theorem dX6_rate_9 : decode cX6_rate 9 = .ok (.ifCond .ne 9, 3) := by decide +kernel
theorem dX6_rate_12 : decode cX6_rate 12 = .ok (.aload_n 0, 1) := by decide +kernel
theorem dX6_rate_13 : decode cX6_rate 13 = .ok (.iconst 1, 1) := by decide +kernel
theorem dX6_rate_14 : decode cX6_rate 14 = .ok (.invokevirtual 48, 3) := by decide +kernel
theorem dX6_rate_17 : decode cX6_rate 17 = .ok (.ireturn, 1) := by decide +kernel
theorem dX6_rate_18 : decode cX6_rate 18 = .ok (.iload_n 2, 1) := by decide +kernel
theorem dX6_rate_19 : decode cX6_rate 19 = .ok (.bipush 100, 2) := by decide +kernel
theorem dX6_rate_21 : decode cX6_rate 21 = .ok (.sipush 5000, 3) := by decide +kernel
theorem dX6_rate_24 : decode cX6_rate 24 = .ok (.invokestatic 41, 3) := by decide +kernel
theorem dX6_rate_27 : decode cX6_rate 27 = .ok (.ifCond .ne 9, 3) := by decide +kernel
theorem dX6_rate_30 : decode cX6_rate 30 = .ok (.aload_n 0, 1) := by decide +kernel
theorem dX6_rate_31 : decode cX6_rate 31 = .ok (.iconst 2, 1) := by decide +kernel
theorem dX6_rate_32 : decode cX6_rate 32 = .ok (.invokevirtual 48, 3) := by decide +kernel
theorem dX6_rate_35 : decode cX6_rate 35 = .ok (.ireturn, 1) := by decide +kernel
theorem dX6_rate_36 : decode cX6_rate 36 = .ok (.aload_n 0, 1) := by decide +kernel
theorem dX6_rate_37 : decode cX6_rate 37 = .ok (.invokevirtual 60, 3) := by decide +kernel
theorem dX6_rate_40 : decode cX6_rate 40 = .ok (.aload_n 0, 1) := by decide +kernel
theorem dX6_rate_41 : decode cX6_rate 41 = .ok (.getfield 7, 3) := by decide +kernel
theorem dX6_rate_44 : decode cX6_rate 44 = .ok (.iconst 5, 1) := by decide +kernel
theorem dX6_rate_45 : decode cX6_rate 45 = .ok (.iload_n 1, 1) := by decide +kernel
theorem dX6_rate_46 : decode cX6_rate 46 = .ok (.iadd, 1) := by decide +kernel
theorem dX6_rate_47 : decode cX6_rate 47 = .ok (.iaload, 1) := by decide +kernel
theorem dX6_rate_48 : decode cX6_rate 48 = .ok (.istore_n 3, 1) := by decide +kernel
theorem dX6_rate_49 : decode cX6_rate 49 = .ok (.aload_n 0, 1) := by decide +kernel
theorem dX6_rate_50 : decode cX6_rate 50 = .ok (.getfield 7, 3) := by decide +kernel
theorem dX6_rate_53 : decode cX6_rate 53 = .ok (.iconst 5, 1) := by decide +kernel
theorem dX6_rate_54 : decode cX6_rate 54 = .ok (.iload_n 1, 1) := by decide +kernel
theorem dX6_rate_55 : decode cX6_rate 55 = .ok (.iadd, 1) := by decide +kernel
theorem dX6_rate_56 : decode cX6_rate 56 = .ok (.iload_n 2, 1) := by decide +kernel
theorem dX6_rate_57 : decode cX6_rate 57 = .ok (.iastore, 1) := by decide +kernel
theorem dX6_rate_58 : decode cX6_rate 58 = .ok (.iload_n 3, 1) := by decide +kernel
theorem dX6_rate_59 : decode cX6_rate 59 = .ok (.ireturn, 1) := by decide +kernel
theorem dX6_maySet_0 : decode cX6_maySet 0 = .ok (.iload_n 0, 1) := by decide +kernel
theorem dX6_maySet_1 : decode cX6_maySet 1 = .ok (.tableswitch 50 0 2 #[27, 34, 42], 27) := by decide +kernel
theorem dX6_maySet_28 : decode cX6_maySet 28 = .ok (.iload_n 1, 1) := by decide +kernel
theorem dX6_maySet_29 : decode cX6_maySet 29 = .ok (.iconst 0, 1) := by decide +kernel
theorem dX6_maySet_30 : decode cX6_maySet 30 = .ok (.iconst 4, 1) := by decide +kernel
theorem dX6_maySet_31 : decode cX6_maySet 31 = .ok (.invokestatic 41, 3) := by decide +kernel
theorem dX6_maySet_34 : decode cX6_maySet 34 = .ok (.ireturn, 1) := by decide +kernel
theorem dX6_maySet_35 : decode cX6_maySet 35 = .ok (.iload_n 1, 1) := by decide +kernel
theorem dX6_maySet_36 : decode cX6_maySet 36 = .ok (.iconst 0, 1) := by decide +kernel
theorem dX6_maySet_37 : decode cX6_maySet 37 = .ok (.bipush 50, 2) := by decide +kernel
theorem dX6_maySet_39 : decode cX6_maySet 39 = .ok (.invokestatic 41, 3) := by decide +kernel
theorem dX6_maySet_42 : decode cX6_maySet 42 = .ok (.ireturn, 1) := by decide +kernel
theorem dX6_maySet_43 : decode cX6_maySet 43 = .ok (.iload_n 1, 1) := by decide +kernel
theorem dX6_maySet_44 : decode cX6_maySet 44 = .ok (.iconst 0, 1) := by decide +kernel
theorem dX6_maySet_45 : decode cX6_maySet 45 = .ok (.bipush 100, 2) := by decide +kernel
theorem dX6_maySet_47 : decode cX6_maySet 47 = .ok (.invokestatic 41, 3) := by decide +kernel
theorem dX6_maySet_50 : decode cX6_maySet 50 = .ok (.ireturn, 1) := by decide +kernel
theorem dX6_maySet_51 : decode cX6_maySet 51 = .ok (.iload_n 1, 1) := by decide +kernel
theorem dX6_maySet_52 : decode cX6_maySet 52 = .ok (.iconst 0, 1) := by decide +kernel
theorem dX6_maySet_53 : decode cX6_maySet 53 = .ok (.bipush 11, 2) := by decide +kernel
theorem dX6_maySet_55 : decode cX6_maySet 55 = .ok (.invokestatic 41, 3) := by decide +kernel
theorem dX6_maySet_58 : decode cX6_maySet 58 = .ok (.ireturn, 1) := by decide +kernel
theorem dX6_isGood_0 : decode cX6_isGood 0 = .ok (.aload_n 0, 1) := by decide +kernel
theorem dX6_isGood_1 : decode cX6_isGood 1 = .ok (.iload_n 1, 1) := by decide +kernel
theorem dX6_isGood_2 : decode cX6_isGood 2 = .ok (.invokevirtual 80, 3) := by decide +kernel
theorem dX6_isGood_5 : decode cX6_isGood 5 = .ok (.aload_n 0, 1) := by decide +kernel
theorem dX6_isGood_6 : decode cX6_isGood 6 = .ok (.iconst 0, 1) := by decide +kernel
theorem dX6_isGood_7 : decode cX6_isGood 7 = .ok (.putfield 77, 3) := by decide +kernel
theorem dX6_isGood_10 : decode cX6_isGood 10 = .ok (.iconst 1, 1) := by decide +kernel
theorem dX6_isGood_11 : decode cX6_isGood 11 = .ok (.istore_n 2, 1) := by decide +kernel
theorem dX6_isGood_12 : decode cX6_isGood 12 = .ok (.iconst 0, 1) := by decide +kernel
theorem dX6_isGood_13 : decode cX6_isGood 13 = .ok (.istore_n 3, 1) := by decide +kernel
theorem dX6_isGood_14 : decode cX6_isGood 14 = .ok (.iload_n 3, 1) := by decide +kernel
theorem dX6_isGood_15 : decode cX6_isGood 15 = .ok (.aload_n 0, 1) := by decide +kernel
theorem dX6_isGood_16 : decode cX6_isGood 16 = .ok (.getfield 67, 3) := by decide +kernel
theorem dX6_isGood_19 : decode cX6_isGood 19 = .ok (.if_icmp .ge 127, 3) := by decide +kernel
theorem dX6_isGood_22 : decode cX6_isGood 22 = .ok (.iconst 0, 1) := by decide +kernel
theorem dX6_isGood_23 : decode cX6_isGood 23 = .ok (.istore 4, 2) := by decide +kernel
theorem dX6_isGood_25 : decode cX6_isGood 25 = .ok (.iload 4, 2) := by decide +kernel
theorem dX6_isGood_27 : decode cX6_isGood 27 = .ok (.iload_n 3, 1) := by decide +kernel
theorem dX6_isGood_28 : decode cX6_isGood 28 = .ok (.if_icmp .ge 69, 3) := by decide +kernel
theorem dX6_isGood_31 : decode cX6_isGood 31 = .ok (.iload_n 2, 1) := by decide +kernel
theorem dX6_isGood_32 : decode cX6_isGood 32 = .ok (.ifCond .eq 57, 3) := by decide +kernel
theorem dX6_isGood_35 : decode cX6_isGood 35 = .ok (.aload_n 0, 1) := by decide +kernel
theorem dX6_isGood_36 : decode cX6_isGood 36 = .ok (.iload_n 3, 1) := by decide +kernel
theorem dX6_isGood_37 : decode cX6_isGood 37 = .ok (.aload_n 0, 1) := by decide +kernel
theorem dX6_isGood_38 : decode cX6_isGood 38 = .ok (.getfield 7, 3) := by decide +kernel
theorem dX6_isGood_41 : decode cX6_isGood 41 = .ok (.aload_n 0, 1) := by decide +kernel
theorem dX6_isGood_42 : decode cX6_isGood 42 = .ok (.getfield 19, 3) := by decide +kernel
theorem dX6_isGood_45 : decode cX6_isGood 45 = .ok (.iload 4, 2) := by decide +kernel
theorem dX6_isGood_47 : decode cX6_isGood 47 = .ok (.iaload, 1) := by decide +kernel
theorem dX6_isGood_48 : decode cX6_isGood 48 = .ok (.iconst 0, 1) := by decide +kernel
theorem dX6_isGood_49 : decode cX6_isGood 49 = .ok (.iadd, 1) := by decide +kernel
theorem dX6_isGood_50 : decode cX6_isGood 50 = .ok (.iaload, 1) := by decide +kernel
theorem dX6_isGood_51 : decode cX6_isGood 51 = .ok (.aload_n 0, 1) := by decide +kernel
theorem dX6_isGood_52 : decode cX6_isGood 52 = .ok (.getfield 7, 3) := by decide +kernel
theorem dX6_isGood_55 : decode cX6_isGood 55 = .ok (.aload_n 0, 1) := by decide +kernel
theorem dX6_isGood_56 : decode cX6_isGood 56 = .ok (.getfield 19, 3) := by decide +kernel
theorem dX6_isGood_59 : decode cX6_isGood 59 = .ok (.iload 4, 2) := by decide +kernel
theorem dX6_isGood_61 : decode cX6_isGood 61 = .ok (.iaload, 1) := by decide +kernel
theorem dX6_isGood_62 : decode cX6_isGood 62 = .ok (.iconst 2, 1) := by decide +kernel
theorem dX6_isGood_63 : decode cX6_isGood 63 = .ok (.iadd, 1) := by decide +kernel
theorem dX6_isGood_64 : decode cX6_isGood 64 = .ok (.iaload, 1) := by decide +kernel
theorem dX6_isGood_65 : decode cX6_isGood 65 = .ok (.aload_n 0, 1) := by decide +kernel
theorem dX6_isGood_66 : decode cX6_isGood 66 = .ok (.getfield 7, 3) := by decide +kernel
theorem dX6_isGood_69 : decode cX6_isGood 69 = .ok (.aload_n 0, 1) := by decide +kernel
theorem dX6_isGood_70 : decode cX6_isGood 70 = .ok (.getfield 19, 3) := by decide +kernel
theorem dX6_isGood_73 : decode cX6_isGood 73 = .ok (.iload 4, 2) := by decide +kernel
theorem dX6_isGood_75 : decode cX6_isGood 75 = .ok (.iaload, 1) := by decide +kernel
theorem dX6_isGood_76 : decode cX6_isGood 76 = .ok (.iconst 3, 1) := by decide +kernel
theorem dX6_isGood_77 : decode cX6_isGood 77 = .ok (.iadd, 1) := by decide +kernel
theorem dX6_isGood_78 : decode cX6_isGood 78 = .ok (.iaload, 1) := by decide +kernel
theorem dX6_isGood_79 : decode cX6_isGood 79 = .ok (.invokevirtual 84, 3) := by decide +kernel
theorem dX6_isGood_82 : decode cX6_isGood 82 = .ok (.ifCond .ne 7, 3) := by decide +kernel
theorem dX6_isGood_85 : decode cX6_isGood 85 = .ok (.iconst 1, 1) := by decide +kernel
theorem dX6_isGood_86 : decode cX6_isGood 86 = .ok (.goto 4, 3) := by decide +kernel
theorem dX6_isGood_89 : decode cX6_isGood 89 = .ok (.iconst 0, 1) := by decide +kernel
theorem dX6_isGood_90 : decode cX6_isGood 90 = .ok (.istore_n 2, 1) := by decide +kernel
theorem dX6_isGood_91 : decode cX6_isGood 91 = .ok (.iinc 4 1, 3) := by decide +kernel
theorem dX6_isGood_94 : decode cX6_isGood 94 = .ok (.goto (-69), 3) := by decide +kernel
theorem dX6_isGood_97 : decode cX6_isGood 97 = .ok (.aload_n 0, 1) := by decide +kernel
theorem dX6_isGood_98 : decode cX6_isGood 98 = .ok (.aload_n 0, 1) := by decide +kernel
theorem dX6_isGood_99 : decode cX6_isGood 99 = .ok (.getfield 7, 3) := by decide +kernel
theorem dX6_isGood_102 : decode cX6_isGood 102 = .ok (.aload_n 0, 1) := by decide +kernel
theorem dX6_isGood_103 : decode cX6_isGood 103 = .ok (.getfield 19, 3) := by decide +kernel
theorem dX6_isGood_106 : decode cX6_isGood 106 = .ok (.iload_n 3, 1) := by decide +kernel
theorem dX6_isGood_107 : decode cX6_isGood 107 = .ok (.iaload, 1) := by decide +kernel
theorem dX6_isGood_108 : decode cX6_isGood 108 = .ok (.iconst 0, 1) := by decide +kernel
theorem dX6_isGood_109 : decode cX6_isGood 109 = .ok (.iadd, 1) := by decide +kernel
theorem dX6_isGood_110 : decode cX6_isGood 110 = .ok (.iaload, 1) := by decide +kernel
theorem dX6_isGood_111 : decode cX6_isGood 111 = .ok (.aload_n 0, 1) := by decide +kernel
theorem dX6_isGood_112 : decode cX6_isGood 112 = .ok (.getfield 7, 3) := by decide +kernel
theorem dX6_isGood_115 : decode cX6_isGood 115 = .ok (.aload_n 0, 1) := by decide +kernel
theorem dX6_isGood_116 : decode cX6_isGood 116 = .ok (.getfield 19, 3) := by decide +kernel
theorem dX6_isGood_119 : decode cX6_isGood 119 = .ok (.iload_n 3, 1) := by decide +kernel
theorem dX6_isGood_120 : decode cX6_isGood 120 = .ok (.iaload, 1) := by decide +kernel
theorem dX6_isGood_121 : decode cX6_isGood 121 = .ok (.iconst 2, 1) := by decide +kernel
theorem dX6_isGood_122 : decode cX6_isGood 122 = .ok (.iadd, 1) := by decide +kernel
theorem dX6_isGood_123 : decode cX6_isGood 123 = .ok (.iaload, 1) := by decide +kernel
theorem dX6_isGood_124 : decode cX6_isGood 124 = .ok (.aload_n 0, 1) := by decide +kernel
theorem dX6_isGood_125 : decode cX6_isGood 125 = .ok (.getfield 7, 3) := by decide +kernel
theorem dX6_isGood_128 : decode cX6_isGood 128 = .ok (.aload_n 0, 1) := by decide +kernel
theorem dX6_isGood_129 : decode cX6_isGood 129 = .ok (.getfield 19, 3) := by decide +kernel
theorem dX6_isGood_132 : decode cX6_isGood 132 = .ok (.iload_n 3, 1) := by decide +kernel
theorem dX6_isGood_133 : decode cX6_isGood 133 = .ok (.iaload, 1) := by decide +kernel
theorem dX6_isGood_134 : decode cX6_isGood 134 = .ok (.iconst 3, 1) := by decide +kernel
theorem dX6_isGood_135 : decode cX6_isGood 135 = .ok (.iadd, 1) := by decide +kernel
theorem dX6_isGood_136 : decode cX6_isGood 136 = .ok (.iaload, 1) := by decide +kernel
theorem dX6_isGood_137 : decode cX6_isGood 137 = .ok (.invokevirtual 88, 3) := by decide +kernel
theorem dX6_isGood_140 : decode cX6_isGood 140 = .ok (.iinc 3 1, 3) := by decide +kernel
theorem dX6_isGood_143 : decode cX6_isGood 143 = .ok (.goto (-129), 3) := by decide +kernel
theorem dX6_isGood_146 : decode cX6_isGood 146 = .ok (.iload_n 2, 1) := by decide +kernel
theorem dX6_isGood_147 : decode cX6_isGood 147 = .ok (.ifCond .eq 14, 3) := by decide +kernel
theorem dX6_isGood_150 : decode cX6_isGood 150 = .ok (.aload_n 0, 1) := by decide +kernel
theorem dX6_isGood_151 : decode cX6_isGood 151 = .ok (.invokevirtual 92, 3) := by decide +kernel
theorem dX6_isGood_154 : decode cX6_isGood 154 = .ok (.ifCond .eq 7, 3) := by decide +kernel
theorem dX6_isGood_157 : decode cX6_isGood 157 = .ok (.iconst 1, 1) := by decide +kernel
theorem dX6_isGood_158 : decode cX6_isGood 158 = .ok (.goto 4, 3) := by decide +kernel
theorem dX6_isGood_161 : decode cX6_isGood 161 = .ok (.iconst 0, 1) := by decide +kernel
theorem dX6_isGood_162 : decode cX6_isGood 162 = .ok (.ireturn, 1) := by decide +kernel
theorem dX6_isGoodWith_0 : decode cX6_isGoodWith 0 = .ok (.aload_n 0, 1) := by decide +kernel
theorem dX6_isGoodWith_1 : decode cX6_isGoodWith 1 = .ok (.getfield 7, 3) := by decide +kernel
theorem dX6_isGoodWith_4 : decode cX6_isGoodWith 4 = .ok (.iload_n 1, 1) := by decide +kernel
theorem dX6_isGoodWith_5 : decode cX6_isGoodWith 5 = .ok (.iaload, 1) := by decide +kernel
theorem dX6_isGoodWith_6 : decode cX6_isGoodWith 6 = .ok (.istore_n 3, 1) := by decide +kernel
theorem dX6_isGoodWith_7 : decode cX6_isGoodWith 7 = .ok (.aload_n 0, 1) := by decide +kernel
theorem dX6_isGoodWith_8 : decode cX6_isGoodWith 8 = .ok (.getfield 7, 3) := by decide +kernel
theorem dX6_isGoodWith_11 : decode cX6_isGoodWith 11 = .ok (.iload_n 1, 1) := by decide +kernel
theorem dX6_isGoodWith_12 : decode cX6_isGoodWith 12 = .ok (.iload_n 2, 1) := by decide +kernel
theorem dX6_isGoodWith_13 : decode cX6_isGoodWith 13 = .ok (.iastore, 1) := by decide +kernel
theorem dX6_isGoodWith_14 : decode cX6_isGoodWith 14 = .ok (.aload_n 0, 1) := by decide +kernel
theorem dX6_isGoodWith_15 : decode cX6_isGoodWith 15 = .ok (.getfield 7, 3) := by decide +kernel
theorem dX6_isGoodWith_18 : decode cX6_isGoodWith 18 = .ok (.iconst 3, 1) := by decide +kernel
theorem dX6_isGoodWith_19 : decode cX6_isGoodWith 19 = .ok (.iaload, 1) := by decide +kernel
theorem dX6_isGoodWith_20 : decode cX6_isGoodWith 20 = .ok (.aload_n 0, 1) := by decide +kernel
theorem dX6_isGoodWith_21 : decode cX6_isGoodWith 21 = .ok (.getfield 7, 3) := by decide +kernel
theorem dX6_isGoodWith_24 : decode cX6_isGoodWith 24 = .ok (.iconst 4, 1) := by decide +kernel
theorem dX6_isGoodWith_25 : decode cX6_isGoodWith 25 = .ok (.iaload, 1) := by decide +kernel
theorem dX6_isGoodWith_26 : decode cX6_isGoodWith 26 = .ok (.if_icmp .gt 7, 3) := by decide +kernel
theorem dX6_isGoodWith_29 : decode cX6_isGoodWith 29 = .ok (.iconst 1, 1) := by decide +kernel
theorem dX6_isGoodWith_30 : decode cX6_isGoodWith 30 = .ok (.goto 4, 3) := by decide +kernel
theorem dX6_isGoodWith_33 : decode cX6_isGoodWith 33 = .ok (.iconst 0, 1) := by decide +kernel
theorem dX6_isGoodWith_34 : decode cX6_isGoodWith 34 = .ok (.istore 4, 2) := by decide +kernel
theorem dX6_isGoodWith_36 : decode cX6_isGoodWith 36 = .ok (.iconst 0, 1) := by decide +kernel
theorem dX6_isGoodWith_37 : decode cX6_isGoodWith 37 = .ok (.istore 5, 2) := by decide +kernel
theorem dX6_isGoodWith_39 : decode cX6_isGoodWith 39 = .ok (.iload 5, 2) := by decide +kernel
theorem dX6_isGoodWith_41 : decode cX6_isGoodWith 41 = .ok (.bipush 84, 2) := by decide +kernel
theorem dX6_isGoodWith_43 : decode cX6_isGoodWith 43 = .ok (.if_icmp .ge 26, 3) := by decide +kernel
theorem dX6_isGoodWith_46 : decode cX6_isGoodWith 46 = .ok (.iload 4, 2) := by decide +kernel
theorem dX6_isGoodWith_48 : decode cX6_isGoodWith 48 = .ok (.ifCond .eq 21, 3) := by decide +kernel
theorem dX6_isGoodWith_51 : decode cX6_isGoodWith 51 = .ok (.iload_n 1, 1) := by decide +kernel
theorem dX6_isGoodWith_52 : decode cX6_isGoodWith 52 = .ok (.ifCond .ne 17, 3) := by decide +kernel
theorem dX6_isGoodWith_55 : decode cX6_isGoodWith 55 = .ok (.aload_n 0, 1) := by decide +kernel
theorem dX6_isGoodWith_56 : decode cX6_isGoodWith 56 = .ok (.iload 5, 2) := by decide +kernel
theorem dX6_isGoodWith_58 : decode cX6_isGoodWith 58 = .ok (.invokevirtual 161, 3) := by decide +kernel
theorem dX6_isGoodWith_61 : decode cX6_isGoodWith 61 = .ok (.istore 4, 2) := by decide +kernel
theorem dX6_isGoodWith_63 : decode cX6_isGoodWith 63 = .ok (.iinc 5 1, 3) := by decide +kernel
theorem dX6_isGoodWith_66 : decode cX6_isGoodWith 66 = .ok (.goto (-27), 3) := by decide +kernel
theorem dX6_isGoodWith_69 : decode cX6_isGoodWith 69 = .ok (.aload_n 0, 1) := by decide +kernel
theorem dX6_isGoodWith_70 : decode cX6_isGoodWith 70 = .ok (.getfield 7, 3) := by decide +kernel
theorem dX6_isGoodWith_73 : decode cX6_isGoodWith 73 = .ok (.iload_n 1, 1) := by decide +kernel
theorem dX6_isGoodWith_74 : decode cX6_isGoodWith 74 = .ok (.iload_n 3, 1) := by decide +kernel
theorem dX6_isGoodWith_75 : decode cX6_isGoodWith 75 = .ok (.iastore, 1) := by decide +kernel
theorem dX6_isGoodWith_76 : decode cX6_isGoodWith 76 = .ok (.iload 4, 2) := by decide +kernel
theorem dX6_isGoodWith_78 : decode cX6_isGoodWith 78 = .ok (.ireturn, 1) := by decide +kernel
theorem dX6_set_0 : decode cX6_set 0 = .ok (.aload_n 0, 1) := by decide +kernel
theorem dX6_set_1 : decode cX6_set 1 = .ok (.iconst 0, 1) := by decide +kernel
theorem dX6_set_2 : decode cX6_set 2 = .ok (.putfield 37, 3) := by decide +kernel
theorem dX6_set_5 : decode cX6_set 5 = .ok (.iload_n 1, 1) := by decide +kernel
theorem dX6_set_6 : decode cX6_set 6 = .ok (.iconst 0, 1) := by decide +kernel
theorem dX6_set_7 : decode cX6_set 7 = .ok (.iconst 4, 1) := by decide +kernel
theorem dX6_set_8 : decode cX6_set 8 = .ok (.invokestatic 41, 3) := by decide +kernel
theorem dX6_set_11 : decode cX6_set 11 = .ok (.ifCond .ne 9, 3) := by decide +kernel
theorem dX6_set_14 : decode cX6_set 14 = .ok (.aload_n 0, 1) := by decide +kernel
theorem dX6_set_15 : decode cX6_set 15 = .ok (.iconst 1, 1) := by decide +kernel
theorem dX6_set_16 : decode cX6_set 16 = .ok (.invokevirtual 48, 3) := by decide +kernel
theorem dX6_set_19 : decode cX6_set 19 = .ok (.ireturn, 1) := by decide +kernel
theorem dX6_set_20 : decode cX6_set 20 = .ok (.iload_n 1, 1) := by decide +kernel
theorem dX6_set_21 : decode cX6_set 21 = .ok (.iload_n 2, 1) := by decide +kernel
theorem dX6_set_22 : decode cX6_set 22 = .ok (.invokestatic 164, 3) := by decide +kernel
theorem dX6_set_25 : decode cX6_set 25 = .ok (.ifCond .ne 9, 3) := by decide +kernel
theorem dX6_set_28 : decode cX6_set 28 = .ok (.aload_n 0, 1) := by decide +kernel
theorem dX6_set_29 : decode cX6_set 29 = .ok (.iconst 2, 1) := by decide +kernel
theorem dX6_set_30 : decode cX6_set 30 = .ok (.invokevirtual 48, 3) := by decide +kernel
theorem dX6_set_33 : decode cX6_set 33 = .ok (.ireturn, 1) := by decide +kernel
theorem dX6_set_34 : decode cX6_set 34 = .ok (.aload_n 0, 1) := by decide +kernel
theorem dX6_set_35 : decode cX6_set 35 = .ok (.iload_n 1, 1) := by decide +kernel
theorem dX6_set_36 : decode cX6_set 36 = .ok (.iload_n 2, 1) := by decide +kernel
theorem dX6_set_37 : decode cX6_set 37 = .ok (.invokevirtual 167, 3) := by decide +kernel
theorem dX6_set_40 : decode cX6_set 40 = .ok (.ifCond .ne 9, 3) := by decide +kernel
theorem dX6_set_43 : decode cX6_set 43 = .ok (.aload_n 0, 1) := by decide +kernel
theorem dX6_set_44 : decode cX6_set 44 = .ok (.iconst 3, 1) := by decide +kernel
theorem dX6_set_45 : decode cX6_set 45 = .ok (.invokevirtual 48, 3) := by decide +kernel
theorem dX6_set_48 : decode cX6_set 48 = .ok (.ireturn, 1) := by decide +kernel
theorem dX6_set_49 : decode cX6_set 49 = .ok (.aload_n 0, 1) := by decide +kernel
theorem dX6_set_50 : decode cX6_set 50 = .ok (.invokevirtual 60, 3) := by decide +kernel
theorem dX6_set_53 : decode cX6_set 53 = .ok (.aload_n 0, 1) := by decide +kernel
theorem dX6_set_54 : decode cX6_set 54 = .ok (.getfield 7, 3) := by decide +kernel
theorem dX6_set_57 : decode cX6_set 57 = .ok (.iload_n 1, 1) := by decide +kernel
theorem dX6_set_58 : decode cX6_set 58 = .ok (.iaload, 1) := by decide +kernel
theorem dX6_set_59 : decode cX6_set 59 = .ok (.istore_n 3, 1) := by decide +kernel
theorem dX6_set_60 : decode cX6_set 60 = .ok (.aload_n 0, 1) := by decide +kernel
theorem dX6_set_61 : decode cX6_set 61 = .ok (.getfield 7, 3) := by decide +kernel
theorem dX6_set_64 : decode cX6_set 64 = .ok (.iload_n 1, 1) := by decide +kernel
theorem dX6_set_65 : decode cX6_set 65 = .ok (.iload_n 2, 1) := by decide +kernel
theorem dX6_set_66 : decode cX6_set 66 = .ok (.iastore, 1) := by decide +kernel
theorem dX6_set_67 : decode cX6_set 67 = .ok (.iload_n 3, 1) := by decide +kernel
theorem dX6_set_68 : decode cX6_set 68 = .ok (.ireturn, 1) := by decide +kernel
theorem dX6_append_0 : decode cX6_append 0 = .ok (.aload_n 0, 1) := by decide +kernel
theorem dX6_append_1 : decode cX6_append 1 = .ok (.iconst 0, 1) := by decide +kernel
theorem dX6_append_2 : decode cX6_append 2 = .ok (.putfield 37, 3) := by decide +kernel
theorem dX6_append_5 : decode cX6_append 5 = .ok (.iload_n 1, 1) := by decide +kernel
theorem dX6_append_6 : decode cX6_append 6 = .ok (.bipush 33, 2) := by decide +kernel
theorem dX6_append_8 : decode cX6_append 8 = .ok (.bipush 126, 2) := by decide +kernel
theorem dX6_append_10 : decode cX6_append 10 = .ok (.invokestatic 41, 3) := by decide +kernel
theorem dX6_append_13 : decode cX6_append 13 = .ok (.ifCond .ne 9, 3) := by decide +kernel
theorem dX6_append_16 : decode cX6_append 16 = .ok (.aload_n 0, 1) := by decide +kernel
theorem dX6_append_17 : decode cX6_append 17 = .ok (.iconst 1, 1) := by decide +kernel
theorem dX6_append_18 : decode cX6_append 18 = .ok (.invokevirtual 48, 3) := by decide +kernel
theorem dX6_append_21 : decode cX6_append 21 = .ok (.ireturn, 1) := by decide +kernel
theorem dX6_append_22 : decode cX6_append 22 = .ok (.aload_n 0, 1) := by decide +kernel
theorem dX6_append_23 : decode cX6_append 23 = .ok (.getfield 170, 3) := by decide +kernel
theorem dX6_append_26 : decode cX6_append 26 = .ok (.bipush 60, 2) := by decide +kernel
theorem dX6_append_28 : decode cX6_append 28 = .ok (.if_icmp .ne 9, 3) := by decide +kernel
theorem dX6_append_31 : decode cX6_append 31 = .ok (.aload_n 0, 1) := by decide +kernel
theorem dX6_append_32 : decode cX6_append 32 = .ok (.iconst 2, 1) := by decide +kernel
theorem dX6_append_33 : decode cX6_append 33 = .ok (.invokevirtual 48, 3) := by decide +kernel
theorem dX6_append_36 : decode cX6_append 36 = .ok (.ireturn, 1) := by decide +kernel
theorem dX6_append_37 : decode cX6_append 37 = .ok (.aload_n 0, 1) := by decide +kernel
theorem dX6_append_38 : decode cX6_append 38 = .ok (.getfield 31, 3) := by decide +kernel
theorem dX6_append_41 : decode cX6_append 41 = .ok (.aload_n 0, 1) := by decide +kernel
theorem dX6_append_42 : decode cX6_append 42 = .ok (.getfield 170, 3) := by decide +kernel
theorem dX6_append_45 : decode cX6_append 45 = .ok (.iload_n 1, 1) := by decide +kernel
theorem dX6_append_46 : decode cX6_append 46 = .ok (.iastore, 1) := by decide +kernel
theorem dX6_append_47 : decode cX6_append 47 = .ok (.aload_n 0, 1) := by decide +kernel
theorem dX6_append_48 : decode cX6_append 48 = .ok (.dup, 1) := by decide +kernel
theorem dX6_append_49 : decode cX6_append 49 = .ok (.getfield 170, 3) := by decide +kernel
theorem dX6_append_52 : decode cX6_append 52 = .ok (.iconst 1, 1) := by decide +kernel
theorem dX6_append_53 : decode cX6_append 53 = .ok (.iadd, 1) := by decide +kernel
theorem dX6_append_54 : decode cX6_append 54 = .ok (.putfield 170, 3) := by decide +kernel
theorem dX6_append_57 : decode cX6_append 57 = .ok (.aload_n 0, 1) := by decide +kernel
theorem dX6_append_58 : decode cX6_append 58 = .ok (.getfield 170, 3) := by decide +kernel
theorem dX6_append_61 : decode cX6_append 61 = .ok (.ireturn, 1) := by decide +kernel
theorem dX6_clearBuffer_0 : decode cX6_clearBuffer 0 = .ok (.aload_n 0, 1) := by decide +kernel
theorem dX6_clearBuffer_1 : decode cX6_clearBuffer 1 = .ok (.iconst 0, 1) := by decide +kernel
theorem dX6_clearBuffer_2 : decode cX6_clearBuffer 2 = .ok (.putfield 37, 3) := by decide +kernel
theorem dX6_clearBuffer_5 : decode cX6_clearBuffer 5 = .ok (.aload_n 0, 1) := by decide +kernel
theorem dX6_clearBuffer_6 : decode cX6_clearBuffer 6 = .ok (.getfield 170, 3) := by decide +kernel
theorem dX6_clearBuffer_9 : decode cX6_clearBuffer 9 = .ok (.istore_n 1, 1) := by decide +kernel
theorem dX6_clearBuffer_10 : decode cX6_clearBuffer 10 = .ok (.aload_n 0, 1) := by decide +kernel
theorem dX6_clearBuffer_11 : decode cX6_clearBuffer 11 = .ok (.iconst 0, 1) := by decide +kernel
theorem dX6_clearBuffer_12 : decode cX6_clearBuffer 12 = .ok (.putfield 170, 3) := by decide +kernel
theorem dX6_clearBuffer_15 : decode cX6_clearBuffer 15 = .ok (.iload_n 1, 1) := by decide +kernel
theorem dX6_clearBuffer_16 : decode cX6_clearBuffer 16 = .ok (.ireturn, 1) := by decide +kernel
theorem dX6_isAt_0 : decode cX6_isAt 0 = .ok (.aload_n 0, 1) := by decide +kernel
theorem dX6_isAt_1 : decode cX6_isAt 1 = .ok (.getfield 173, 3) := by decide +kernel
theorem dX6_isAt_4 : decode cX6_isAt 4 = .ok (.aload_n 0, 1) := by decide +kernel
theorem dX6_isAt_5 : decode cX6_isAt 5 = .ok (.getfield 170, 3) := by decide +kernel
theorem dX6_isAt_8 : decode cX6_isAt 8 = .ok (.if_icmp .ge 24, 3) := by decide +kernel
theorem dX6_isAt_11 : decode cX6_isAt 11 = .ok (.aload_n 0, 1) := by decide +kernel
theorem dX6_isAt_12 : decode cX6_isAt 12 = .ok (.getfield 31, 3) := by decide +kernel
theorem dX6_isAt_15 : decode cX6_isAt 15 = .ok (.aload_n 0, 1) := by decide +kernel
theorem dX6_isAt_16 : decode cX6_isAt 16 = .ok (.getfield 173, 3) := by decide +kernel
theorem dX6_isAt_19 : decode cX6_isAt 19 = .ok (.iaload, 1) := by decide +kernel
theorem dX6_isAt_20 : decode cX6_isAt 20 = .ok (.iload_n 1, 1) := by decide +kernel
theorem dX6_isAt_21 : decode cX6_isAt 21 = .ok (.iload_n 2, 1) := by decide +kernel
theorem dX6_isAt_22 : decode cX6_isAt 22 = .ok (.invokestatic 41, 3) := by decide +kernel
theorem dX6_isAt_25 : decode cX6_isAt 25 = .ok (.ifCond .eq 7, 3) := by decide +kernel
theorem dX6_isAt_28 : decode cX6_isAt 28 = .ok (.iconst 1, 1) := by decide +kernel
theorem dX6_isAt_29 : decode cX6_isAt 29 = .ok (.goto 4, 3) := by decide +kernel
theorem dX6_isAt_32 : decode cX6_isAt 32 = .ok (.iconst 0, 1) := by decide +kernel
theorem dX6_isAt_33 : decode cX6_isAt 33 = .ok (.ireturn, 1) := by decide +kernel
theorem dX6_takes_0 : decode cX6_takes 0 = .ok (.aload_n 0, 1) := by decide +kernel
theorem dX6_takes_1 : decode cX6_takes 1 = .ok (.iload_n 1, 1) := by decide +kernel
theorem dX6_takes_2 : decode cX6_takes 2 = .ok (.iload_n 1, 1) := by decide +kernel
theorem dX6_takes_3 : decode cX6_takes 3 = .ok (.invokevirtual 176, 3) := by decide +kernel
theorem dX6_takes_6 : decode cX6_takes 6 = .ok (.istore_n 2, 1) := by decide +kernel
theorem dX6_takes_7 : decode cX6_takes 7 = .ok (.aload_n 0, 1) := by decide +kernel
theorem dX6_takes_8 : decode cX6_takes 8 = .ok (.dup, 1) := by decide +kernel
theorem dX6_takes_9 : decode cX6_takes 9 = .ok (.getfield 173, 3) := by decide +kernel
theorem dX6_takes_12 : decode cX6_takes 12 = .ok (.iload_n 2, 1) := by decide +kernel
theorem dX6_takes_13 : decode cX6_takes 13 = .ok (.ifCond .eq 7, 3) := by decide +kernel
theorem dX6_takes_16 : decode cX6_takes 16 = .ok (.iconst 1, 1) := by decide +kernel
theorem dX6_takes_17 : decode cX6_takes 17 = .ok (.goto 4, 3) := by decide +kernel
theorem dX6_takes_20 : decode cX6_takes 20 = .ok (.iconst 0, 1) := by decide +kernel
theorem dX6_takes_21 : decode cX6_takes 21 = .ok (.iadd, 1) := by decide +kernel
theorem dX6_takes_22 : decode cX6_takes 22 = .ok (.putfield 173, 3) := by decide +kernel
theorem dX6_takes_25 : decode cX6_takes 25 = .ok (.iload_n 2, 1) := by decide +kernel
theorem dX6_takes_26 : decode cX6_takes 26 = .ok (.ireturn, 1) := by decide +kernel
theorem dX6_reads_0 : decode cX6_reads 0 = .ok (.aload_n 0, 1) := by decide +kernel
theorem dX6_reads_1 : decode cX6_reads 1 = .ok (.bipush 48, 2) := by decide +kernel
theorem dX6_reads_3 : decode cX6_reads 3 = .ok (.iload_n 1, 1) := by decide +kernel
theorem dX6_reads_4 : decode cX6_reads 4 = .ok (.iadd, 1) := by decide +kernel
theorem dX6_reads_5 : decode cX6_reads 5 = .ok (.iload_n 2, 1) := by decide +kernel
theorem dX6_reads_6 : decode cX6_reads 6 = .ok (.bipush 9, 2) := by decide +kernel
theorem dX6_reads_8 : decode cX6_reads 8 = .ok (.if_icmp .ge 10, 3) := by decide +kernel
theorem dX6_reads_11 : decode cX6_reads 11 = .ok (.bipush 48, 2) := by decide +kernel
theorem dX6_reads_13 : decode cX6_reads 13 = .ok (.iload_n 2, 1) := by decide +kernel
theorem dX6_reads_14 : decode cX6_reads 14 = .ok (.iadd, 1) := by decide +kernel
theorem dX6_reads_15 : decode cX6_reads 15 = .ok (.goto 5, 3) := by decide +kernel
theorem dX6_reads_18 : decode cX6_reads 18 = .ok (.bipush 57, 2) := by decide +kernel
theorem dX6_reads_20 : decode cX6_reads 20 = .ok (.invokevirtual 176, 3) := by decide +kernel
theorem dX6_reads_23 : decode cX6_reads 23 = .ok (.ifCond .ne 5, 3) := by decide +kernel
theorem dX6_reads_26 : decode cX6_reads 26 = .ok (.iconst 0, 1) := by decide +kernel
theorem dX6_reads_27 : decode cX6_reads 27 = .ok (.ireturn, 1) := by decide +kernel
theorem dX6_reads_28 : decode cX6_reads 28 = .ok (.aload_n 0, 1) := by decide +kernel
theorem dX6_reads_29 : decode cX6_reads 29 = .ok (.aload_n 0, 1) := by decide +kernel
theorem dX6_reads_30 : decode cX6_reads 30 = .ok (.getfield 31, 3) := by decide +kernel
theorem dX6_reads_33 : decode cX6_reads 33 = .ok (.aload_n 0, 1) := by decide +kernel
theorem dX6_reads_34 : decode cX6_reads 34 = .ok (.getfield 173, 3) := by decide +kernel
theorem dX6_reads_37 : decode cX6_reads 37 = .ok (.iaload, 1) := by decide +kernel
theorem dX6_reads_38 : decode cX6_reads 38 = .ok (.bipush 48, 2) := by decide +kernel
theorem dX6_reads_40 : decode cX6_reads 40 = .ok (.isub, 1) := by decide +kernel
theorem dX6_reads_41 : decode cX6_reads 41 = .ok (.putfield 179, 3) := by decide +kernel
theorem dX6_reads_44 : decode cX6_reads 44 = .ok (.aload_n 0, 1) := by decide +kernel
theorem dX6_reads_45 : decode cX6_reads 45 = .ok (.dup, 1) := by decide +kernel
theorem dX6_reads_46 : decode cX6_reads 46 = .ok (.getfield 173, 3) := by decide +kernel
theorem dX6_reads_49 : decode cX6_reads 49 = .ok (.iconst 1, 1) := by decide +kernel
theorem dX6_reads_50 : decode cX6_reads 50 = .ok (.iadd, 1) := by decide +kernel
theorem dX6_reads_51 : decode cX6_reads 51 = .ok (.putfield 173, 3) := by decide +kernel
theorem dX6_reads_54 : decode cX6_reads 54 = .ok (.aload_n 0, 1) := by decide +kernel
theorem dX6_reads_55 : decode cX6_reads 55 = .ok (.getfield 179, 3) := by decide +kernel
theorem dX6_reads_58 : decode cX6_reads 58 = .ok (.ifCond .le 72, 3) := by decide +kernel
theorem dX6_reads_61 : decode cX6_reads 61 = .ok (.aload_n 0, 1) := by decide +kernel
theorem dX6_reads_62 : decode cX6_reads 62 = .ok (.bipush 48, 2) := by decide +kernel
theorem dX6_reads_64 : decode cX6_reads 64 = .ok (.bipush 57, 2) := by decide +kernel
theorem dX6_reads_66 : decode cX6_reads 66 = .ok (.invokevirtual 176, 3) := by decide +kernel
theorem dX6_reads_69 : decode cX6_reads 69 = .ok (.ifCond .eq 61, 3) := by decide +kernel
theorem dX6_reads_72 : decode cX6_reads 72 = .ok (.bipush 10, 2) := by decide +kernel
theorem dX6_reads_74 : decode cX6_reads 74 = .ok (.aload_n 0, 1) := by decide +kernel
theorem dX6_reads_75 : decode cX6_reads 75 = .ok (.getfield 179, 3) := by decide +kernel
theorem dX6_reads_78 : decode cX6_reads 78 = .ok (.imul, 1) := by decide +kernel
theorem dX6_reads_79 : decode cX6_reads 79 = .ok (.aload_n 0, 1) := by decide +kernel
theorem dX6_reads_80 : decode cX6_reads 80 = .ok (.getfield 31, 3) := by decide +kernel
theorem dX6_reads_83 : decode cX6_reads 83 = .ok (.aload_n 0, 1) := by decide +kernel
theorem dX6_reads_84 : decode cX6_reads 84 = .ok (.getfield 173, 3) := by decide +kernel
theorem dX6_reads_87 : decode cX6_reads 87 = .ok (.iaload, 1) := by decide +kernel
theorem dX6_reads_88 : decode cX6_reads 88 = .ok (.iadd, 1) := by decide +kernel
theorem dX6_reads_89 : decode cX6_reads 89 = .ok (.bipush 48, 2) := by decide +kernel
theorem dX6_reads_91 : decode cX6_reads 91 = .ok (.isub, 1) := by decide +kernel
theorem dX6_reads_92 : decode cX6_reads 92 = .ok (.iload_n 2, 1) := by decide +kernel
theorem dX6_reads_93 : decode cX6_reads 93 = .ok (.if_icmp .gt 37, 3) := by decide +kernel
theorem dX6_reads_96 : decode cX6_reads 96 = .ok (.aload_n 0, 1) := by decide +kernel
theorem dX6_reads_97 : decode cX6_reads 97 = .ok (.bipush 10, 2) := by decide +kernel
theorem dX6_reads_99 : decode cX6_reads 99 = .ok (.aload_n 0, 1) := by decide +kernel
theorem dX6_reads_100 : decode cX6_reads 100 = .ok (.getfield 179, 3) := by decide +kernel
theorem dX6_reads_103 : decode cX6_reads 103 = .ok (.imul, 1) := by decide +kernel
theorem dX6_reads_104 : decode cX6_reads 104 = .ok (.aload_n 0, 1) := by decide +kernel
theorem dX6_reads_105 : decode cX6_reads 105 = .ok (.getfield 31, 3) := by decide +kernel
theorem dX6_reads_108 : decode cX6_reads 108 = .ok (.aload_n 0, 1) := by decide +kernel
theorem dX6_reads_109 : decode cX6_reads 109 = .ok (.getfield 173, 3) := by decide +kernel
theorem dX6_reads_112 : decode cX6_reads 112 = .ok (.iaload, 1) := by decide +kernel
theorem dX6_reads_113 : decode cX6_reads 113 = .ok (.iadd, 1) := by decide +kernel
theorem dX6_reads_114 : decode cX6_reads 114 = .ok (.bipush 48, 2) := by decide +kernel
theorem dX6_reads_116 : decode cX6_reads 116 = .ok (.isub, 1) := by decide +kernel
theorem dX6_reads_117 : decode cX6_reads 117 = .ok (.putfield 179, 3) := by decide +kernel
theorem dX6_reads_120 : decode cX6_reads 120 = .ok (.aload_n 0, 1) := by decide +kernel
theorem dX6_reads_121 : decode cX6_reads 121 = .ok (.dup, 1) := by decide +kernel
theorem dX6_reads_122 : decode cX6_reads 122 = .ok (.getfield 173, 3) := by decide +kernel
theorem dX6_reads_125 : decode cX6_reads 125 = .ok (.iconst 1, 1) := by decide +kernel
theorem dX6_reads_126 : decode cX6_reads 126 = .ok (.iadd, 1) := by decide +kernel
theorem dX6_reads_127 : decode cX6_reads 127 = .ok (.putfield 173, 3) := by decide +kernel
theorem dX6_reads_130 : decode cX6_reads 130 = .ok (.aload_n 0, 1) := by decide +kernel
theorem dX6_reads_131 : decode cX6_reads 131 = .ok (.getfield 34, 3) := by decide +kernel
theorem dX6_reads_134 : decode cX6_reads 134 = .ok (.bipush 6, 2) := by decide +kernel
theorem dX6_reads_136 : decode cX6_reads 136 = .ok (.aload_n 0, 1) := by decide +kernel
theorem dX6_reads_137 : decode cX6_reads 137 = .ok (.getfield 182, 3) := by decide +kernel
theorem dX6_reads_140 : decode cX6_reads 140 = .ok (.imul, 1) := by decide +kernel
theorem dX6_reads_141 : decode cX6_reads 141 = .ok (.iload_n 3, 1) := by decide +kernel
theorem dX6_reads_142 : decode cX6_reads 142 = .ok (.iadd, 1) := by decide +kernel
theorem dX6_reads_143 : decode cX6_reads 143 = .ok (.aload_n 0, 1) := by decide +kernel
theorem dX6_reads_144 : decode cX6_reads 144 = .ok (.getfield 179, 3) := by decide +kernel
theorem dX6_reads_147 : decode cX6_reads 147 = .ok (.iastore, 1) := by decide +kernel
theorem dX6_reads_148 : decode cX6_reads 148 = .ok (.iconst 1, 1) := by decide +kernel
theorem dX6_reads_149 : decode cX6_reads 149 = .ok (.ireturn, 1) := by decide +kernel
theorem dX6_readPart_0 : decode cX6_readPart 0 = .ok (.aload_n 0, 1) := by decide +kernel
theorem dX6_readPart_1 : decode cX6_readPart 1 = .ok (.iconst 0, 1) := by decide +kernel
theorem dX6_readPart_2 : decode cX6_readPart 2 = .ok (.iconst 2, 1) := by decide +kernel
theorem dX6_readPart_3 : decode cX6_readPart 3 = .ok (.iconst 0, 1) := by decide +kernel
theorem dX6_readPart_4 : decode cX6_readPart 4 = .ok (.invokevirtual 185, 3) := by decide +kernel
theorem dX6_readPart_7 : decode cX6_readPart 7 = .ok (.ifCond .eq 56, 3) := by decide +kernel
theorem dX6_readPart_10 : decode cX6_readPart 10 = .ok (.aload_n 0, 1) := by decide +kernel
theorem dX6_readPart_11 : decode cX6_readPart 11 = .ok (.bipush 58, 2) := by decide +kernel
theorem dX6_readPart_13 : decode cX6_readPart 13 = .ok (.invokevirtual 188, 3) := by decide +kernel
theorem dX6_readPart_16 : decode cX6_readPart 16 = .ok (.ifCond .eq 47, 3) := by decide +kernel
theorem dX6_readPart_19 : decode cX6_readPart 19 = .ok (.aload_n 0, 1) := by decide +kernel
theorem dX6_readPart_20 : decode cX6_readPart 20 = .ok (.iconst 0, 1) := by decide +kernel
theorem dX6_readPart_21 : decode cX6_readPart 21 = .ok (.bipush 83, 2) := by decide +kernel
theorem dX6_readPart_23 : decode cX6_readPart 23 = .ok (.iconst 1, 1) := by decide +kernel
theorem dX6_readPart_24 : decode cX6_readPart 24 = .ok (.invokevirtual 185, 3) := by decide +kernel
theorem dX6_readPart_27 : decode cX6_readPart 27 = .ok (.ifCond .eq 36, 3) := by decide +kernel
theorem dX6_readPart_30 : decode cX6_readPart 30 = .ok (.aload_n 0, 1) := by decide +kernel
theorem dX6_readPart_31 : decode cX6_readPart 31 = .ok (.bipush 44, 2) := by decide +kernel
theorem dX6_readPart_33 : decode cX6_readPart 33 = .ok (.invokevirtual 188, 3) := by decide +kernel
theorem dX6_readPart_36 : decode cX6_readPart 36 = .ok (.ifCond .eq 27, 3) := by decide +kernel
theorem dX6_readPart_39 : decode cX6_readPart 39 = .ok (.aload_n 0, 1) := by decide +kernel
theorem dX6_readPart_40 : decode cX6_readPart 40 = .ok (.iconst 0, 1) := by decide +kernel
theorem dX6_readPart_41 : decode cX6_readPart 41 = .ok (.bipush 23, 2) := by decide +kernel
theorem dX6_readPart_43 : decode cX6_readPart 43 = .ok (.iconst 2, 1) := by decide +kernel
theorem dX6_readPart_44 : decode cX6_readPart 44 = .ok (.invokevirtual 185, 3) := by decide +kernel
theorem dX6_readPart_47 : decode cX6_readPart 47 = .ok (.ifCond .eq 16, 3) := by decide +kernel
theorem dX6_readPart_50 : decode cX6_readPart 50 = .ok (.aload_n 0, 1) := by decide +kernel
theorem dX6_readPart_51 : decode cX6_readPart 51 = .ok (.bipush 45, 2) := by decide +kernel
theorem dX6_readPart_53 : decode cX6_readPart 53 = .ok (.invokevirtual 188, 3) := by decide +kernel
theorem dX6_readPart_56 : decode cX6_readPart 56 = .ok (.ifCond .eq 7, 3) := by decide +kernel
theorem dX6_readPart_59 : decode cX6_readPart 59 = .ok (.iconst 1, 1) := by decide +kernel
theorem dX6_readPart_60 : decode cX6_readPart 60 = .ok (.goto 4, 3) := by decide +kernel
theorem dX6_readPart_63 : decode cX6_readPart 63 = .ok (.iconst 0, 1) := by decide +kernel
theorem dX6_readPart_64 : decode cX6_readPart 64 = .ok (.istore_n 1, 1) := by decide +kernel
theorem dX6_readPart_65 : decode cX6_readPart 65 = .ok (.iload_n 1, 1) := by decide +kernel
theorem dX6_readPart_66 : decode cX6_readPart 66 = .ok (.ifCond .eq 58, 3) := by decide +kernel
theorem dX6_readPart_69 : decode cX6_readPart 69 = .ok (.aload_n 0, 1) := by decide +kernel
theorem dX6_readPart_70 : decode cX6_readPart 70 = .ok (.iconst 1, 1) := by decide +kernel
theorem dX6_readPart_71 : decode cX6_readPart 71 = .ok (.bipush 24, 2) := by decide +kernel
theorem dX6_readPart_73 : decode cX6_readPart 73 = .ok (.iconst 3, 1) := by decide +kernel
theorem dX6_readPart_74 : decode cX6_readPart 74 = .ok (.invokevirtual 185, 3) := by decide +kernel
theorem dX6_readPart_77 : decode cX6_readPart 77 = .ok (.ifCond .eq 47, 3) := by decide +kernel
theorem dX6_readPart_80 : decode cX6_readPart 80 = .ok (.aload_n 0, 1) := by decide +kernel
theorem dX6_readPart_81 : decode cX6_readPart 81 = .ok (.bipush 42, 2) := by decide +kernel
theorem dX6_readPart_83 : decode cX6_readPart 83 = .ok (.invokevirtual 188, 3) := by decide +kernel
theorem dX6_readPart_86 : decode cX6_readPart 86 = .ok (.ifCond .eq 38, 3) := by decide +kernel
theorem dX6_readPart_89 : decode cX6_readPart 89 = .ok (.aload_n 0, 1) := by decide +kernel
theorem dX6_readPart_90 : decode cX6_readPart 90 = .ok (.iconst 1, 1) := by decide +kernel
theorem dX6_readPart_91 : decode cX6_readPart 91 = .ok (.bipush 9, 2) := by decide +kernel
theorem dX6_readPart_93 : decode cX6_readPart 93 = .ok (.iconst 4, 1) := by decide +kernel
theorem dX6_readPart_94 : decode cX6_readPart 94 = .ok (.invokevirtual 185, 3) := by decide +kernel
theorem dX6_readPart_97 : decode cX6_readPart 97 = .ok (.ifCond .eq 27, 3) := by decide +kernel
theorem dX6_readPart_100 : decode cX6_readPart 100 = .ok (.aload_n 0, 1) := by decide +kernel
theorem dX6_readPart_101 : decode cX6_readPart 101 = .ok (.bipush 64, 2) := by decide +kernel
theorem dX6_readPart_103 : decode cX6_readPart 103 = .ok (.invokevirtual 188, 3) := by decide +kernel
theorem dX6_readPart_106 : decode cX6_readPart 106 = .ok (.ifCond .eq 18, 3) := by decide +kernel
theorem dX6_readPart_109 : decode cX6_readPart 109 = .ok (.aload_n 0, 1) := by decide +kernel
theorem dX6_readPart_110 : decode cX6_readPart 110 = .ok (.iconst 0, 1) := by decide +kernel
theorem dX6_readPart_111 : decode cX6_readPart 111 = .ok (.bipush 19, 2) := by decide +kernel
theorem dX6_readPart_113 : decode cX6_readPart 113 = .ok (.iconst 5, 1) := by decide +kernel
theorem dX6_readPart_114 : decode cX6_readPart 114 = .ok (.invokevirtual 185, 3) := by decide +kernel
theorem dX6_readPart_117 : decode cX6_readPart 117 = .ok (.ifCond .eq 7, 3) := by decide +kernel
theorem dX6_readPart_120 : decode cX6_readPart 120 = .ok (.iconst 1, 1) := by decide +kernel
theorem dX6_readPart_121 : decode cX6_readPart 121 = .ok (.goto 4, 3) := by decide +kernel
theorem dX6_readPart_124 : decode cX6_readPart 124 = .ok (.iconst 0, 1) := by decide +kernel
theorem dX6_readPart_125 : decode cX6_readPart 125 = .ok (.istore_n 1, 1) := by decide +kernel
theorem dX6_readPart_126 : decode cX6_readPart 126 = .ok (.aload_n 0, 1) := by decide +kernel
theorem dX6_readPart_127 : decode cX6_readPart 127 = .ok (.dup, 1) := by decide +kernel
theorem dX6_readPart_128 : decode cX6_readPart 128 = .ok (.getfield 182, 3) := by decide +kernel
theorem dX6_readPart_131 : decode cX6_readPart 131 = .ok (.iload_n 1, 1) := by decide +kernel
theorem dX6_readPart_132 : decode cX6_readPart 132 = .ok (.ifCond .eq 7, 3) := by decide +kernel
theorem dX6_readPart_135 : decode cX6_readPart 135 = .ok (.iconst 1, 1) := by decide +kernel
theorem dX6_readPart_136 : decode cX6_readPart 136 = .ok (.goto 4, 3) := by decide +kernel
theorem dX6_readPart_139 : decode cX6_readPart 139 = .ok (.iconst 0, 1) := by decide +kernel
theorem dX6_readPart_140 : decode cX6_readPart 140 = .ok (.iadd, 1) := by decide +kernel
theorem dX6_readPart_141 : decode cX6_readPart 141 = .ok (.putfield 182, 3) := by decide +kernel
theorem dX6_readPart_144 : decode cX6_readPart 144 = .ok (.iload_n 1, 1) := by decide +kernel
theorem dX6_readPart_145 : decode cX6_readPart 145 = .ok (.ireturn, 1) := by decide +kernel
theorem dX6_areLets_0 : decode cX6_areLets 0 = .ok (.aload_n 0, 1) := by decide +kernel
theorem dX6_areLets_1 : decode cX6_areLets 1 = .ok (.iconst 0, 1) := by decide +kernel
theorem dX6_areLets_2 : decode cX6_areLets 2 = .ok (.putfield 173, 3) := by decide +kernel
theorem dX6_areLets_5 : decode cX6_areLets 5 = .ok (.aload_n 0, 1) := by decide +kernel
theorem dX6_areLets_6 : decode cX6_areLets 6 = .ok (.iconst 0, 1) := by decide +kernel
theorem dX6_areLets_7 : decode cX6_areLets 7 = .ok (.putfield 182, 3) := by decide +kernel
theorem dX6_areLets_10 : decode cX6_areLets 10 = .ok (.aload_n 0, 1) := by decide +kernel
theorem dX6_areLets_11 : decode cX6_areLets 11 = .ok (.invokevirtual 191, 3) := by decide +kernel
theorem dX6_areLets_14 : decode cX6_areLets 14 = .ok (.istore_n 1, 1) := by decide +kernel
theorem dX6_areLets_15 : decode cX6_areLets 15 = .ok (.iload_n 1, 1) := by decide +kernel
theorem dX6_areLets_16 : decode cX6_areLets 16 = .ok (.ifCond .eq 20, 3) := by decide +kernel
theorem dX6_areLets_19 : decode cX6_areLets 19 = .ok (.aload_n 0, 1) := by decide +kernel
theorem dX6_areLets_20 : decode cX6_areLets 20 = .ok (.bipush 59, 2) := by decide +kernel
theorem dX6_areLets_22 : decode cX6_areLets 22 = .ok (.invokevirtual 188, 3) := by decide +kernel
theorem dX6_areLets_25 : decode cX6_areLets 25 = .ok (.ifCond .eq 11, 3) := by decide +kernel
theorem dX6_areLets_28 : decode cX6_areLets 28 = .ok (.aload_n 0, 1) := by decide +kernel
theorem dX6_areLets_29 : decode cX6_areLets 29 = .ok (.invokevirtual 191, 3) := by decide +kernel
theorem dX6_areLets_32 : decode cX6_areLets 32 = .ok (.istore_n 1, 1) := by decide +kernel
theorem dX6_areLets_33 : decode cX6_areLets 33 = .ok (.goto (-18), 3) := by decide +kernel
theorem dX6_areLets_36 : decode cX6_areLets 36 = .ok (.iload_n 1, 1) := by decide +kernel
theorem dX6_areLets_37 : decode cX6_areLets 37 = .ok (.ifCond .eq 18, 3) := by decide +kernel
theorem dX6_areLets_40 : decode cX6_areLets 40 = .ok (.aload_n 0, 1) := by decide +kernel
theorem dX6_areLets_41 : decode cX6_areLets 41 = .ok (.getfield 173, 3) := by decide +kernel
theorem dX6_areLets_44 : decode cX6_areLets 44 = .ok (.aload_n 0, 1) := by decide +kernel
theorem dX6_areLets_45 : decode cX6_areLets 45 = .ok (.getfield 170, 3) := by decide +kernel
theorem dX6_areLets_48 : decode cX6_areLets 48 = .ok (.if_icmp .ne 7, 3) := by decide +kernel
theorem dX6_areLets_51 : decode cX6_areLets 51 = .ok (.iconst 1, 1) := by decide +kernel
theorem dX6_areLets_52 : decode cX6_areLets 52 = .ok (.goto 4, 3) := by decide +kernel
theorem dX6_areLets_55 : decode cX6_areLets 55 = .ok (.iconst 0, 1) := by decide +kernel
theorem dX6_areLets_56 : decode cX6_areLets 56 = .ok (.ireturn, 1) := by decide +kernel
theorem dX6_firstError_0 : decode cX6_firstError 0 = .ok (.aload_n 0, 1) := by decide +kernel
theorem dX6_firstError_1 : decode cX6_firstError 1 = .ok (.iconst 0, 1) := by decide +kernel
theorem dX6_firstError_2 : decode cX6_firstError 2 = .ok (.putfield 37, 3) := by decide +kernel
theorem dX6_firstError_5 : decode cX6_firstError 5 = .ok (.aload_n 0, 1) := by decide +kernel
theorem dX6_firstError_6 : decode cX6_firstError 6 = .ok (.invokevirtual 194, 3) := by decide +kernel
theorem dX6_firstError_9 : decode cX6_firstError 9 = .ok (.ifCond .eq 10, 3) := by decide +kernel
theorem dX6_firstError_12 : decode cX6_firstError 12 = .ok (.aload_n 0, 1) := by decide +kernel
theorem dX6_firstError_13 : decode cX6_firstError 13 = .ok (.getfield 170, 3) := by decide +kernel
theorem dX6_firstError_16 : decode cX6_firstError 16 = .ok (.goto 7, 3) := by decide +kernel
theorem dX6_firstError_19 : decode cX6_firstError 19 = .ok (.aload_n 0, 1) := by decide +kernel
theorem dX6_firstError_20 : decode cX6_firstError 20 = .ok (.getfield 173, 3) := by decide +kernel
theorem dX6_firstError_23 : decode cX6_firstError 23 = .ok (.ireturn, 1) := by decide +kernel
theorem dX6_lets_0 : decode cX6_lets 0 = .ok (.aload_n 0, 1) := by decide +kernel
theorem dX6_lets_1 : decode cX6_lets 1 = .ok (.iconst 0, 1) := by decide +kernel
theorem dX6_lets_2 : decode cX6_lets 2 = .ok (.putfield 37, 3) := by decide +kernel
theorem dX6_lets_5 : decode cX6_lets 5 = .ok (.aload_n 0, 1) := by decide +kernel
theorem dX6_lets_6 : decode cX6_lets 6 = .ok (.invokevirtual 194, 3) := by decide +kernel
theorem dX6_lets_9 : decode cX6_lets 9 = .ok (.ifCond .ne 9, 3) := by decide +kernel
theorem dX6_lets_12 : decode cX6_lets 12 = .ok (.aload_n 0, 1) := by decide +kernel
theorem dX6_lets_13 : decode cX6_lets 13 = .ok (.iconst 1, 1) := by decide +kernel
theorem dX6_lets_14 : decode cX6_lets 14 = .ok (.invokevirtual 48, 3) := by decide +kernel
theorem dX6_lets_17 : decode cX6_lets 17 = .ok (.ireturn, 1) := by decide +kernel
theorem dX6_lets_18 : decode cX6_lets 18 = .ok (.aload_n 0, 1) := by decide +kernel
theorem dX6_lets_19 : decode cX6_lets 19 = .ok (.invokevirtual 60, 3) := by decide +kernel
theorem dX6_lets_22 : decode cX6_lets 22 = .ok (.iconst 0, 1) := by decide +kernel
theorem dX6_lets_23 : decode cX6_lets 23 = .ok (.istore_n 1, 1) := by decide +kernel
theorem dX6_lets_24 : decode cX6_lets 24 = .ok (.iconst 0, 1) := by decide +kernel
theorem dX6_lets_25 : decode cX6_lets 25 = .ok (.istore_n 2, 1) := by decide +kernel
theorem dX6_lets_26 : decode cX6_lets 26 = .ok (.iload_n 2, 1) := by decide +kernel
theorem dX6_lets_27 : decode cX6_lets 27 = .ok (.bipush 6, 2) := by decide +kernel
theorem dX6_lets_29 : decode cX6_lets 29 = .ok (.aload_n 0, 1) := by decide +kernel
theorem dX6_lets_30 : decode cX6_lets 30 = .ok (.getfield 182, 3) := by decide +kernel
theorem dX6_lets_33 : decode cX6_lets 33 = .ok (.imul, 1) := by decide +kernel
theorem dX6_lets_34 : decode cX6_lets 34 = .ok (.if_icmp .ge 127, 3) := by decide +kernel
theorem dX6_lets_37 : decode cX6_lets 37 = .ok (.aload_n 0, 1) := by decide +kernel
theorem dX6_lets_38 : decode cX6_lets 38 = .ok (.getfield 34, 3) := by decide +kernel
theorem dX6_lets_41 : decode cX6_lets 41 = .ok (.iload_n 2, 1) := by decide +kernel
theorem dX6_lets_42 : decode cX6_lets 42 = .ok (.iconst 3, 1) := by decide +kernel
theorem dX6_lets_43 : decode cX6_lets 43 = .ok (.iadd, 1) := by decide +kernel
theorem dX6_lets_44 : decode cX6_lets 44 = .ok (.iaload, 1) := by decide +kernel
theorem dX6_lets_45 : decode cX6_lets 45 = .ok (.aload_n 0, 1) := by decide +kernel
theorem dX6_lets_46 : decode cX6_lets 46 = .ok (.getfield 34, 3) := by decide +kernel
theorem dX6_lets_49 : decode cX6_lets 49 = .ok (.iload_n 2, 1) := by decide +kernel
theorem dX6_lets_50 : decode cX6_lets 50 = .ok (.iconst 2, 1) := by decide +kernel
theorem dX6_lets_51 : decode cX6_lets 51 = .ok (.iadd, 1) := by decide +kernel
theorem dX6_lets_52 : decode cX6_lets 52 = .ok (.iaload, 1) := by decide +kernel
theorem dX6_lets_53 : decode cX6_lets 53 = .ok (.if_icmp .le 102, 3) := by decide +kernel
theorem dX6_lets_56 : decode cX6_lets 56 = .ok (.aload_n 0, 1) := by decide +kernel
theorem dX6_lets_57 : decode cX6_lets 57 = .ok (.aload_n 0, 1) := by decide +kernel
theorem dX6_lets_58 : decode cX6_lets 58 = .ok (.getfield 34, 3) := by decide +kernel
theorem dX6_lets_61 : decode cX6_lets 61 = .ok (.iload_n 2, 1) := by decide +kernel
theorem dX6_lets_62 : decode cX6_lets 62 = .ok (.iaload, 1) := by decide +kernel
theorem dX6_lets_63 : decode cX6_lets 63 = .ok (.aload_n 0, 1) := by decide +kernel
theorem dX6_lets_64 : decode cX6_lets 64 = .ok (.getfield 34, 3) := by decide +kernel
theorem dX6_lets_67 : decode cX6_lets 67 = .ok (.iload_n 2, 1) := by decide +kernel
theorem dX6_lets_68 : decode cX6_lets 68 = .ok (.iconst 1, 1) := by decide +kernel
theorem dX6_lets_69 : decode cX6_lets 69 = .ok (.iadd, 1) := by decide +kernel
theorem dX6_lets_70 : decode cX6_lets 70 = .ok (.iaload, 1) := by decide +kernel
theorem dX6_lets_71 : decode cX6_lets 71 = .ok (.aload_n 0, 1) := by decide +kernel
theorem dX6_lets_72 : decode cX6_lets 72 = .ok (.getfield 34, 3) := by decide +kernel
theorem dX6_lets_75 : decode cX6_lets 75 = .ok (.iload_n 2, 1) := by decide +kernel
theorem dX6_lets_76 : decode cX6_lets 76 = .ok (.iconst 2, 1) := by decide +kernel
theorem dX6_lets_77 : decode cX6_lets 77 = .ok (.iadd, 1) := by decide +kernel
theorem dX6_lets_78 : decode cX6_lets 78 = .ok (.iaload, 1) := by decide +kernel
theorem dX6_lets_79 : decode cX6_lets 79 = .ok (.aload_n 0, 1) := by decide +kernel
theorem dX6_lets_80 : decode cX6_lets 80 = .ok (.getfield 34, 3) := by decide +kernel
theorem dX6_lets_83 : decode cX6_lets 83 = .ok (.iload_n 2, 1) := by decide +kernel
theorem dX6_lets_84 : decode cX6_lets 84 = .ok (.iconst 3, 1) := by decide +kernel
theorem dX6_lets_85 : decode cX6_lets 85 = .ok (.iadd, 1) := by decide +kernel
theorem dX6_lets_86 : decode cX6_lets 86 = .ok (.iaload, 1) := by decide +kernel
theorem dX6_lets_87 : decode cX6_lets 87 = .ok (.aload_n 0, 1) := by decide +kernel
theorem dX6_lets_88 : decode cX6_lets 88 = .ok (.getfield 34, 3) := by decide +kernel
theorem dX6_lets_91 : decode cX6_lets 91 = .ok (.iload_n 2, 1) := by decide +kernel
theorem dX6_lets_92 : decode cX6_lets 92 = .ok (.iconst 4, 1) := by decide +kernel
theorem dX6_lets_93 : decode cX6_lets 93 = .ok (.iadd, 1) := by decide +kernel
theorem dX6_lets_94 : decode cX6_lets 94 = .ok (.iaload, 1) := by decide +kernel
theorem dX6_lets_95 : decode cX6_lets 95 = .ok (.invokevirtual 130, 3) := by decide +kernel
theorem dX6_lets_98 : decode cX6_lets 98 = .ok (.ifCond .ne 57, 3) := by decide +kernel
theorem dX6_lets_101 : decode cX6_lets 101 = .ok (.aload_n 0, 1) := by decide +kernel
theorem dX6_lets_102 : decode cX6_lets 102 = .ok (.aload_n 0, 1) := by decide +kernel
theorem dX6_lets_103 : decode cX6_lets 103 = .ok (.getfield 34, 3) := by decide +kernel
theorem dX6_lets_106 : decode cX6_lets 106 = .ok (.iload_n 2, 1) := by decide +kernel
theorem dX6_lets_107 : decode cX6_lets 107 = .ok (.iaload, 1) := by decide +kernel
theorem dX6_lets_108 : decode cX6_lets 108 = .ok (.aload_n 0, 1) := by decide +kernel
theorem dX6_lets_109 : decode cX6_lets 109 = .ok (.getfield 34, 3) := by decide +kernel
theorem dX6_lets_112 : decode cX6_lets 112 = .ok (.iload_n 2, 1) := by decide +kernel
theorem dX6_lets_113 : decode cX6_lets 113 = .ok (.iconst 1, 1) := by decide +kernel
theorem dX6_lets_114 : decode cX6_lets 114 = .ok (.iadd, 1) := by decide +kernel
theorem dX6_lets_115 : decode cX6_lets 115 = .ok (.iaload, 1) := by decide +kernel
theorem dX6_lets_116 : decode cX6_lets 116 = .ok (.aload_n 0, 1) := by decide +kernel
theorem dX6_lets_117 : decode cX6_lets 117 = .ok (.getfield 34, 3) := by decide +kernel
theorem dX6_lets_120 : decode cX6_lets 120 = .ok (.iload_n 2, 1) := by decide +kernel
theorem dX6_lets_121 : decode cX6_lets 121 = .ok (.iconst 2, 1) := by decide +kernel
theorem dX6_lets_122 : decode cX6_lets 122 = .ok (.iadd, 1) := by decide +kernel
theorem dX6_lets_123 : decode cX6_lets 123 = .ok (.iaload, 1) := by decide +kernel
theorem dX6_lets_124 : decode cX6_lets 124 = .ok (.aload_n 0, 1) := by decide +kernel
theorem dX6_lets_125 : decode cX6_lets 125 = .ok (.getfield 34, 3) := by decide +kernel
theorem dX6_lets_128 : decode cX6_lets 128 = .ok (.iload_n 2, 1) := by decide +kernel
theorem dX6_lets_129 : decode cX6_lets 129 = .ok (.iconst 3, 1) := by decide +kernel
theorem dX6_lets_130 : decode cX6_lets 130 = .ok (.iadd, 1) := by decide +kernel
theorem dX6_lets_131 : decode cX6_lets 131 = .ok (.iaload, 1) := by decide +kernel
theorem dX6_lets_132 : decode cX6_lets 132 = .ok (.aload_n 0, 1) := by decide +kernel
theorem dX6_lets_133 : decode cX6_lets 133 = .ok (.getfield 34, 3) := by decide +kernel
theorem dX6_lets_136 : decode cX6_lets 136 = .ok (.iload_n 2, 1) := by decide +kernel
theorem dX6_lets_137 : decode cX6_lets 137 = .ok (.iconst 4, 1) := by decide +kernel
theorem dX6_lets_138 : decode cX6_lets 138 = .ok (.iadd, 1) := by decide +kernel
theorem dX6_lets_139 : decode cX6_lets 139 = .ok (.iaload, 1) := by decide +kernel
theorem dX6_lets_140 : decode cX6_lets 140 = .ok (.aload_n 0, 1) := by decide +kernel
theorem dX6_lets_141 : decode cX6_lets 141 = .ok (.getfield 34, 3) := by decide +kernel
theorem dX6_lets_144 : decode cX6_lets 144 = .ok (.iload_n 2, 1) := by decide +kernel
theorem dX6_lets_145 : decode cX6_lets 145 = .ok (.iconst 5, 1) := by decide +kernel
theorem dX6_lets_146 : decode cX6_lets 146 = .ok (.iadd, 1) := by decide +kernel
theorem dX6_lets_147 : decode cX6_lets 147 = .ok (.iaload, 1) := by decide +kernel
theorem dX6_lets_148 : decode cX6_lets 148 = .ok (.invokevirtual 133, 3) := by decide +kernel
theorem dX6_lets_151 : decode cX6_lets 151 = .ok (.istore_n 3, 1) := by decide +kernel
theorem dX6_lets_152 : decode cX6_lets 152 = .ok (.iinc 1 1, 3) := by decide +kernel
theorem dX6_lets_155 : decode cX6_lets 155 = .ok (.iinc 2 6, 3) := by decide +kernel
theorem dX6_lets_158 : decode cX6_lets 158 = .ok (.goto (-132), 3) := by decide +kernel
theorem dX6_lets_161 : decode cX6_lets 161 = .ok (.aload_n 0, 1) := by decide +kernel
theorem dX6_lets_162 : decode cX6_lets 162 = .ok (.iconst 0, 1) := by decide +kernel
theorem dX6_lets_163 : decode cX6_lets 163 = .ok (.putfield 170, 3) := by decide +kernel
theorem dX6_lets_166 : decode cX6_lets 166 = .ok (.iload_n 1, 1) := by decide +kernel
theorem dX6_lets_167 : decode cX6_lets 167 = .ok (.ireturn, 1) := by decide +kernel
theorem dX6_firstDayOf_0 : decode cX6_firstDayOf 0 = .ok (.iconst 0, 1) := by decide +kernel
theorem dX6_firstDayOf_1 : decode cX6_firstDayOf 1 = .ok (.istore_n 2, 1) := by decide +kernel
theorem dX6_firstDayOf_2 : decode cX6_firstDayOf 2 = .ok (.iload_n 2, 1) := by decide +kernel
theorem dX6_firstDayOf_3 : decode cX6_firstDayOf 3 = .ok (.bipush 84, 2) := by decide +kernel
theorem dX6_firstDayOf_5 : decode cX6_firstDayOf 5 = .ok (.if_icmp .ge 20, 3) := by decide +kernel
theorem dX6_firstDayOf_8 : decode cX6_firstDayOf 8 = .ok (.aload_n 0, 1) := by decide +kernel
theorem dX6_firstDayOf_9 : decode cX6_firstDayOf 9 = .ok (.iload_n 1, 1) := by decide +kernel
theorem dX6_firstDayOf_10 : decode cX6_firstDayOf 10 = .ok (.iload_n 2, 1) := by decide +kernel
theorem dX6_firstDayOf_11 : decode cX6_firstDayOf 11 = .ok (.invokevirtual 70, 3) := by decide +kernel
theorem dX6_firstDayOf_14 : decode cX6_firstDayOf 14 = .ok (.ifCond .eq 5, 3) := by decide +kernel
theorem dX6_firstDayOf_17 : decode cX6_firstDayOf 17 = .ok (.iload_n 2, 1) := by decide +kernel
theorem dX6_firstDayOf_18 : decode cX6_firstDayOf 18 = .ok (.ireturn, 1) := by decide +kernel
theorem dX6_firstDayOf_19 : decode cX6_firstDayOf 19 = .ok (.iinc 2 1, 3) := by decide +kernel
theorem dX6_firstDayOf_22 : decode cX6_firstDayOf 22 = .ok (.goto (-20), 3) := by decide +kernel
theorem dX6_firstDayOf_25 : decode cX6_firstDayOf 25 = .ok (.iconst (-1), 1) := by decide +kernel
theorem dX6_firstDayOf_26 : decode cX6_firstDayOf 26 = .ok (.ireturn, 1) := by decide +kernel
theorem dX6_ofRegular_0 : decode cX6_ofRegular 0 = .ok (.iload_n 2, 1) := by decide +kernel
theorem dX6_ofRegular_1 : decode cX6_ofRegular 1 = .ok (.bipush 9, 2) := by decide +kernel
theorem dX6_ofRegular_3 : decode cX6_ofRegular 3 = .ok (.if_icmp .ge 12, 3) := by decide +kernel
theorem dX6_ofRegular_6 : decode cX6_ofRegular 6 = .ok (.aload_n 0, 1) := by decide +kernel
theorem dX6_ofRegular_7 : decode cX6_ofRegular 7 = .ok (.iload_n 1, 1) := by decide +kernel
theorem dX6_ofRegular_8 : decode cX6_ofRegular 8 = .ok (.iload_n 2, 1) := by decide +kernel
theorem dX6_ofRegular_9 : decode cX6_ofRegular 9 = .ok (.invokevirtual 63, 3) := by decide +kernel
theorem dX6_ofRegular_12 : decode cX6_ofRegular 12 = .ok (.goto 22, 3) := by decide +kernel
theorem dX6_ofRegular_15 : decode cX6_ofRegular 15 = .ok (.iload_n 2, 1) := by decide +kernel
theorem dX6_ofRegular_16 : decode cX6_ofRegular 16 = .ok (.bipush 9, 2) := by decide +kernel
theorem dX6_ofRegular_18 : decode cX6_ofRegular 18 = .ok (.if_icmp .ne 11, 3) := by decide +kernel
theorem dX6_ofRegular_21 : decode cX6_ofRegular 21 = .ok (.aload_n 0, 1) := by decide +kernel
theorem dX6_ofRegular_22 : decode cX6_ofRegular 22 = .ok (.iload_n 1, 1) := by decide +kernel
theorem dX6_ofRegular_23 : decode cX6_ofRegular 23 = .ok (.invokevirtual 149, 3) := by decide +kernel
theorem dX6_ofRegular_26 : decode cX6_ofRegular 26 = .ok (.goto 8, 3) := by decide +kernel
theorem dX6_ofRegular_29 : decode cX6_ofRegular 29 = .ok (.aload_n 0, 1) := by decide +kernel
theorem dX6_ofRegular_30 : decode cX6_ofRegular 30 = .ok (.iload_n 1, 1) := by decide +kernel
theorem dX6_ofRegular_31 : decode cX6_ofRegular 31 = .ok (.invokevirtual 197, 3) := by decide +kernel
theorem dX6_ofRegular_34 : decode cX6_ofRegular 34 = .ok (.ireturn, 1) := by decide +kernel
theorem dX6_regularOf_0 : decode cX6_regularOf 0 = .ok (.aload_n 0, 1) := by decide +kernel
theorem dX6_regularOf_1 : decode cX6_regularOf 1 = .ok (.iconst 0, 1) := by decide +kernel
theorem dX6_regularOf_2 : decode cX6_regularOf 2 = .ok (.putfield 37, 3) := by decide +kernel
theorem dX6_regularOf_5 : decode cX6_regularOf 5 = .ok (.iload_n 1, 1) := by decide +kernel
theorem dX6_regularOf_6 : decode cX6_regularOf 6 = .ok (.iconst 0, 1) := by decide +kernel
theorem dX6_regularOf_7 : decode cX6_regularOf 7 = .ok (.aload_n 0, 1) := by decide +kernel
theorem dX6_regularOf_8 : decode cX6_regularOf 8 = .ok (.getfield 7, 3) := by decide +kernel
theorem dX6_regularOf_11 : decode cX6_regularOf 11 = .ok (.bipush 11, 2) := by decide +kernel
theorem dX6_regularOf_13 : decode cX6_regularOf 13 = .ok (.iaload, 1) := by decide +kernel
theorem dX6_regularOf_14 : decode cX6_regularOf 14 = .ok (.iconst 1, 1) := by decide +kernel
theorem dX6_regularOf_15 : decode cX6_regularOf 15 = .ok (.isub, 1) := by decide +kernel
theorem dX6_regularOf_16 : decode cX6_regularOf 16 = .ok (.invokestatic 41, 3) := by decide +kernel
theorem dX6_regularOf_19 : decode cX6_regularOf 19 = .ok (.ifCond .ne 9, 3) := by decide +kernel
theorem dX6_regularOf_22 : decode cX6_regularOf 22 = .ok (.aload_n 0, 1) := by decide +kernel
theorem dX6_regularOf_23 : decode cX6_regularOf 23 = .ok (.iconst 1, 1) := by decide +kernel
theorem dX6_regularOf_24 : decode cX6_regularOf 24 = .ok (.invokevirtual 48, 3) := by decide +kernel
theorem dX6_regularOf_27 : decode cX6_regularOf 27 = .ok (.ireturn, 1) := by decide +kernel
theorem dX6_regularOf_28 : decode cX6_regularOf 28 = .ok (.iload_n 2, 1) := by decide +kernel
theorem dX6_regularOf_29 : decode cX6_regularOf 29 = .ok (.iconst 0, 1) := by decide +kernel
theorem dX6_regularOf_30 : decode cX6_regularOf 30 = .ok (.bipush 10, 2) := by decide +kernel
theorem dX6_regularOf_32 : decode cX6_regularOf 32 = .ok (.invokestatic 41, 3) := by decide +kernel
theorem dX6_regularOf_35 : decode cX6_regularOf 35 = .ok (.ifCond .eq 12, 3) := by decide +kernel
theorem dX6_regularOf_38 : decode cX6_regularOf 38 = .ok (.aload_n 0, 1) := by decide +kernel
theorem dX6_regularOf_39 : decode cX6_regularOf 39 = .ok (.iload_n 1, 1) := by decide +kernel
theorem dX6_regularOf_40 : decode cX6_regularOf 40 = .ok (.iload_n 2, 1) := by decide +kernel
theorem dX6_regularOf_41 : decode cX6_regularOf 41 = .ok (.invokevirtual 200, 3) := by decide +kernel
theorem dX6_regularOf_44 : decode cX6_regularOf 44 = .ok (.goto 8, 3) := by decide +kernel
theorem dX6_regularOf_47 : decode cX6_regularOf 47 = .ok (.aload_n 0, 1) := by decide +kernel
theorem dX6_regularOf_48 : decode cX6_regularOf 48 = .ok (.iconst 2, 1) := by decide +kernel
theorem dX6_regularOf_49 : decode cX6_regularOf 49 = .ok (.invokevirtual 48, 3) := by decide +kernel
theorem dX6_regularOf_52 : decode cX6_regularOf 52 = .ok (.ireturn, 1) := by decide +kernel
theorem dX6_singleOf_0 : decode cX6_singleOf 0 = .ok (.aload_n 0, 1) := by decide +kernel
theorem dX6_singleOf_1 : decode cX6_singleOf 1 = .ok (.iconst 0, 1) := by decide +kernel
theorem dX6_singleOf_2 : decode cX6_singleOf 2 = .ok (.putfield 37, 3) := by decide +kernel
theorem dX6_singleOf_5 : decode cX6_singleOf 5 = .ok (.iload_n 1, 1) := by decide +kernel
theorem dX6_singleOf_6 : decode cX6_singleOf 6 = .ok (.iconst 0, 1) := by decide +kernel
theorem dX6_singleOf_7 : decode cX6_singleOf 7 = .ok (.aload_n 0, 1) := by decide +kernel
theorem dX6_singleOf_8 : decode cX6_singleOf 8 = .ok (.getfield 7, 3) := by decide +kernel
theorem dX6_singleOf_11 : decode cX6_singleOf 11 = .ok (.bipush 92, 2) := by decide +kernel
theorem dX6_singleOf_13 : decode cX6_singleOf 13 = .ok (.iaload, 1) := by decide +kernel
theorem dX6_singleOf_14 : decode cX6_singleOf 14 = .ok (.iconst 1, 1) := by decide +kernel
theorem dX6_singleOf_15 : decode cX6_singleOf 15 = .ok (.isub, 1) := by decide +kernel
theorem dX6_singleOf_16 : decode cX6_singleOf 16 = .ok (.invokestatic 41, 3) := by decide +kernel
theorem dX6_singleOf_19 : decode cX6_singleOf 19 = .ok (.ifCond .ne 9, 3) := by decide +kernel
theorem dX6_singleOf_22 : decode cX6_singleOf 22 = .ok (.aload_n 0, 1) := by decide +kernel
theorem dX6_singleOf_23 : decode cX6_singleOf 23 = .ok (.iconst 1, 1) := by decide +kernel
theorem dX6_singleOf_24 : decode cX6_singleOf 24 = .ok (.invokevirtual 48, 3) := by decide +kernel
theorem dX6_singleOf_27 : decode cX6_singleOf 27 = .ok (.ireturn, 1) := by decide +kernel
theorem dX6_singleOf_28 : decode cX6_singleOf 28 = .ok (.iload_n 2, 1) := by decide +kernel
theorem dX6_singleOf_29 : decode cX6_singleOf 29 = .ok (.iconst 0, 1) := by decide +kernel
theorem dX6_singleOf_30 : decode cX6_singleOf 30 = .ok (.bipush 6, 2) := by decide +kernel
theorem dX6_singleOf_32 : decode cX6_singleOf 32 = .ok (.invokestatic 41, 3) := by decide +kernel
theorem dX6_singleOf_35 : decode cX6_singleOf 35 = .ok (.ifCond .eq 12, 3) := by decide +kernel
theorem dX6_singleOf_38 : decode cX6_singleOf 38 = .ok (.aload_n 0, 1) := by decide +kernel
theorem dX6_singleOf_39 : decode cX6_singleOf 39 = .ok (.iload_n 1, 1) := by decide +kernel
theorem dX6_singleOf_40 : decode cX6_singleOf 40 = .ok (.iload_n 2, 1) := by decide +kernel
theorem dX6_singleOf_41 : decode cX6_singleOf 41 = .ok (.invokevirtual 74, 3) := by decide +kernel
theorem dX6_singleOf_44 : decode cX6_singleOf 44 = .ok (.goto 8, 3) := by decide +kernel
theorem dX6_singleOf_47 : decode cX6_singleOf 47 = .ok (.aload_n 0, 1) := by decide +kernel
theorem dX6_singleOf_48 : decode cX6_singleOf 48 = .ok (.iconst 2, 1) := by decide +kernel
theorem dX6_singleOf_49 : decode cX6_singleOf 49 = .ok (.invokevirtual 48, 3) := by decide +kernel
theorem dX6_singleOf_52 : decode cX6_singleOf 52 = .ok (.ireturn, 1) := by decide +kernel
theorem dX6_tenantAt_0 : decode cX6_tenantAt 0 = .ok (.aload_n 0, 1) := by decide +kernel
theorem dX6_tenantAt_1 : decode cX6_tenantAt 1 = .ok (.iload_n 2, 1) := by decide +kernel
theorem dX6_tenantAt_2 : decode cX6_tenantAt 2 = .ok (.invokevirtual 80, 3) := by decide +kernel
theorem dX6_tenantAt_5 : decode cX6_tenantAt 5 = .ok (.iconst (-1), 1) := by decide +kernel
theorem dX6_tenantAt_6 : decode cX6_tenantAt 6 = .ok (.istore 4, 2) := by decide +kernel
theorem dX6_tenantAt_8 : decode cX6_tenantAt 8 = .ok (.iconst 0, 1) := by decide +kernel
theorem dX6_tenantAt_9 : decode cX6_tenantAt 9 = .ok (.istore 5, 2) := by decide +kernel
theorem dX6_tenantAt_11 : decode cX6_tenantAt 11 = .ok (.iload 5, 2) := by decide +kernel
theorem dX6_tenantAt_13 : decode cX6_tenantAt 13 = .ok (.aload_n 0, 1) := by decide +kernel
theorem dX6_tenantAt_14 : decode cX6_tenantAt 14 = .ok (.getfield 67, 3) := by decide +kernel
theorem dX6_tenantAt_17 : decode cX6_tenantAt 17 = .ok (.if_icmp .ge 85, 3) := by decide +kernel
theorem dX6_tenantAt_20 : decode cX6_tenantAt 20 = .ok (.aload_n 0, 1) := by decide +kernel
theorem dX6_tenantAt_21 : decode cX6_tenantAt 21 = .ok (.getfield 7, 3) := by decide +kernel
theorem dX6_tenantAt_24 : decode cX6_tenantAt 24 = .ok (.aload_n 0, 1) := by decide +kernel
theorem dX6_tenantAt_25 : decode cX6_tenantAt 25 = .ok (.getfield 19, 3) := by decide +kernel
theorem dX6_tenantAt_28 : decode cX6_tenantAt 28 = .ok (.iload 5, 2) := by decide +kernel
theorem dX6_tenantAt_30 : decode cX6_tenantAt 30 = .ok (.iaload, 1) := by decide +kernel
theorem dX6_tenantAt_31 : decode cX6_tenantAt 31 = .ok (.iconst 0, 1) := by decide +kernel
theorem dX6_tenantAt_32 : decode cX6_tenantAt 32 = .ok (.iadd, 1) := by decide +kernel
theorem dX6_tenantAt_33 : decode cX6_tenantAt 33 = .ok (.iaload, 1) := by decide +kernel
theorem dX6_tenantAt_34 : decode cX6_tenantAt 34 = .ok (.iload_n 1, 1) := by decide +kernel
theorem dX6_tenantAt_35 : decode cX6_tenantAt 35 = .ok (.if_icmp .ne 57, 3) := by decide +kernel
theorem dX6_tenantAt_38 : decode cX6_tenantAt 38 = .ok (.iload_n 3, 1) := by decide +kernel
theorem dX6_tenantAt_39 : decode cX6_tenantAt 39 = .ok (.aload_n 0, 1) := by decide +kernel
theorem dX6_tenantAt_40 : decode cX6_tenantAt 40 = .ok (.getfield 7, 3) := by decide +kernel
theorem dX6_tenantAt_43 : decode cX6_tenantAt 43 = .ok (.aload_n 0, 1) := by decide +kernel
theorem dX6_tenantAt_44 : decode cX6_tenantAt 44 = .ok (.getfield 19, 3) := by decide +kernel
theorem dX6_tenantAt_47 : decode cX6_tenantAt 47 = .ok (.iload 5, 2) := by decide +kernel
theorem dX6_tenantAt_49 : decode cX6_tenantAt 49 = .ok (.iaload, 1) := by decide +kernel
theorem dX6_tenantAt_50 : decode cX6_tenantAt 50 = .ok (.iconst 2, 1) := by decide +kernel
theorem dX6_tenantAt_51 : decode cX6_tenantAt 51 = .ok (.iadd, 1) := by decide +kernel
theorem dX6_tenantAt_52 : decode cX6_tenantAt 52 = .ok (.iaload, 1) := by decide +kernel
theorem dX6_tenantAt_53 : decode cX6_tenantAt 53 = .ok (.aload_n 0, 1) := by decide +kernel
theorem dX6_tenantAt_54 : decode cX6_tenantAt 54 = .ok (.getfield 7, 3) := by decide +kernel
theorem dX6_tenantAt_57 : decode cX6_tenantAt 57 = .ok (.aload_n 0, 1) := by decide +kernel
theorem dX6_tenantAt_58 : decode cX6_tenantAt 58 = .ok (.getfield 19, 3) := by decide +kernel
theorem dX6_tenantAt_61 : decode cX6_tenantAt 61 = .ok (.iload 5, 2) := by decide +kernel
theorem dX6_tenantAt_63 : decode cX6_tenantAt 63 = .ok (.iaload, 1) := by decide +kernel
theorem dX6_tenantAt_64 : decode cX6_tenantAt 64 = .ok (.iconst 3, 1) := by decide +kernel
theorem dX6_tenantAt_65 : decode cX6_tenantAt 65 = .ok (.iadd, 1) := by decide +kernel
theorem dX6_tenantAt_66 : decode cX6_tenantAt 66 = .ok (.iaload, 1) := by decide +kernel
theorem dX6_tenantAt_67 : decode cX6_tenantAt 67 = .ok (.iconst 1, 1) := by decide +kernel
theorem dX6_tenantAt_68 : decode cX6_tenantAt 68 = .ok (.isub, 1) := by decide +kernel
theorem dX6_tenantAt_69 : decode cX6_tenantAt 69 = .ok (.invokestatic 41, 3) := by decide +kernel
theorem dX6_tenantAt_72 : decode cX6_tenantAt 72 = .ok (.ifCond .eq 20, 3) := by decide +kernel
theorem dX6_tenantAt_75 : decode cX6_tenantAt 75 = .ok (.aload_n 0, 1) := by decide +kernel
theorem dX6_tenantAt_76 : decode cX6_tenantAt 76 = .ok (.getfield 7, 3) := by decide +kernel
theorem dX6_tenantAt_79 : decode cX6_tenantAt 79 = .ok (.aload_n 0, 1) := by decide +kernel
theorem dX6_tenantAt_80 : decode cX6_tenantAt 80 = .ok (.getfield 19, 3) := by decide +kernel
theorem dX6_tenantAt_83 : decode cX6_tenantAt 83 = .ok (.iload 5, 2) := by decide +kernel
theorem dX6_tenantAt_85 : decode cX6_tenantAt 85 = .ok (.iaload, 1) := by decide +kernel
theorem dX6_tenantAt_86 : decode cX6_tenantAt 86 = .ok (.iconst 5, 1) := by decide +kernel
theorem dX6_tenantAt_87 : decode cX6_tenantAt 87 = .ok (.iadd, 1) := by decide +kernel
theorem dX6_tenantAt_88 : decode cX6_tenantAt 88 = .ok (.iaload, 1) := by decide +kernel
theorem dX6_tenantAt_89 : decode cX6_tenantAt 89 = .ok (.goto 5, 3) := by decide +kernel
theorem dX6_tenantAt_92 : decode cX6_tenantAt 92 = .ok (.iload 4, 2) := by decide +kernel
theorem dX6_tenantAt_94 : decode cX6_tenantAt 94 = .ok (.istore 4, 2) := by decide +kernel
theorem dX6_tenantAt_96 : decode cX6_tenantAt 96 = .ok (.iinc 5 1, 3) := by decide +kernel
theorem dX6_tenantAt_99 : decode cX6_tenantAt 99 = .ok (.goto (-88), 3) := by decide +kernel
theorem dX6_tenantAt_102 : decode cX6_tenantAt 102 = .ok (.iload 4, 2) := by decide +kernel
theorem dX6_tenantAt_104 : decode cX6_tenantAt 104 = .ok (.ireturn, 1) := by decide +kernel
theorem dX6_who_0 : decode cX6_who 0 = .ok (.aload_n 0, 1) := by decide +kernel
theorem dX6_who_1 : decode cX6_who 1 = .ok (.iconst 0, 1) := by decide +kernel
theorem dX6_who_2 : decode cX6_who 2 = .ok (.putfield 37, 3) := by decide +kernel
theorem dX6_who_5 : decode cX6_who 5 = .ok (.iload_n 1, 1) := by decide +kernel
theorem dX6_who_6 : decode cX6_who 6 = .ok (.invokestatic 117, 3) := by decide +kernel
theorem dX6_who_9 : decode cX6_who 9 = .ok (.ifCond .ne 9, 3) := by decide +kernel
theorem dX6_who_12 : decode cX6_who 12 = .ok (.aload_n 0, 1) := by decide +kernel
theorem dX6_who_13 : decode cX6_who 13 = .ok (.iconst 1, 1) := by decide +kernel
theorem dX6_who_14 : decode cX6_who 14 = .ok (.invokevirtual 48, 3) := by decide +kernel
theorem dX6_who_17 : decode cX6_who 17 = .ok (.ireturn, 1) := by decide +kernel
theorem dX6_who_18 : decode cX6_who 18 = .ok (.iload_n 2, 1) := by decide +kernel
theorem dX6_who_19 : decode cX6_who 19 = .ok (.invokestatic 121, 3) := by decide +kernel
theorem dX6_who_22 : decode cX6_who 22 = .ok (.ifCond .eq 23, 3) := by decide +kernel
theorem dX6_who_25 : decode cX6_who 25 = .ok (.iload_n 3, 1) := by decide +kernel
theorem dX6_who_26 : decode cX6_who 26 = .ok (.iconst 0, 1) := by decide +kernel
theorem dX6_who_27 : decode cX6_who 27 = .ok (.bipush 23, 2) := by decide +kernel
theorem dX6_who_29 : decode cX6_who 29 = .ok (.invokestatic 41, 3) := by decide +kernel
theorem dX6_who_32 : decode cX6_who 32 = .ok (.ifCond .eq 13, 3) := by decide +kernel
theorem dX6_who_35 : decode cX6_who 35 = .ok (.aload_n 0, 1) := by decide +kernel
theorem dX6_who_36 : decode cX6_who 36 = .ok (.iload_n 1, 1) := by decide +kernel
theorem dX6_who_37 : decode cX6_who 37 = .ok (.iload_n 2, 1) := by decide +kernel
theorem dX6_who_38 : decode cX6_who 38 = .ok (.iload_n 3, 1) := by decide +kernel
theorem dX6_who_39 : decode cX6_who 39 = .ok (.invokevirtual 203, 3) := by decide +kernel
theorem dX6_who_42 : decode cX6_who 42 = .ok (.goto 8, 3) := by decide +kernel
theorem dX6_who_45 : decode cX6_who 45 = .ok (.aload_n 0, 1) := by decide +kernel
theorem dX6_who_46 : decode cX6_who 46 = .ok (.iconst 2, 1) := by decide +kernel
theorem dX6_who_47 : decode cX6_who 47 = .ok (.invokevirtual 48, 3) := by decide +kernel
theorem dX6_who_50 : decode cX6_who 50 = .ok (.ireturn, 1) := by decide +kernel
theorem dX6_inHall_0 : decode cX6_inHall 0 = .ok (.aload_n 0, 1) := by decide +kernel
theorem dX6_inHall_1 : decode cX6_inHall 1 = .ok (.iload_n 2, 1) := by decide +kernel
theorem dX6_inHall_2 : decode cX6_inHall 2 = .ok (.invokevirtual 80, 3) := by decide +kernel
theorem dX6_inHall_5 : decode cX6_inHall 5 = .ok (.iconst 0, 1) := by decide +kernel
theorem dX6_inHall_6 : decode cX6_inHall 6 = .ok (.istore 4, 2) := by decide +kernel
theorem dX6_inHall_8 : decode cX6_inHall 8 = .ok (.iconst 0, 1) := by decide +kernel
theorem dX6_inHall_9 : decode cX6_inHall 9 = .ok (.istore 5, 2) := by decide +kernel
theorem dX6_inHall_11 : decode cX6_inHall 11 = .ok (.iload 5, 2) := by decide +kernel
theorem dX6_inHall_13 : decode cX6_inHall 13 = .ok (.aload_n 0, 1) := by decide +kernel
theorem dX6_inHall_14 : decode cX6_inHall 14 = .ok (.getfield 67, 3) := by decide +kernel
theorem dX6_inHall_17 : decode cX6_inHall 17 = .ok (.if_icmp .ge 100, 3) := by decide +kernel
theorem dX6_inHall_20 : decode cX6_inHall 20 = .ok (.iload_n 3, 1) := by decide +kernel
theorem dX6_inHall_21 : decode cX6_inHall 21 = .ok (.ifCond .ne 7, 3) := by decide +kernel
theorem dX6_inHall_24 : decode cX6_inHall 24 = .ok (.iconst 1, 1) := by decide +kernel
theorem dX6_inHall_25 : decode cX6_inHall 25 = .ok (.goto 55, 3) := by decide +kernel
theorem dX6_inHall_28 : decode cX6_inHall 28 = .ok (.iload_n 3, 1) := by decide +kernel
theorem dX6_inHall_29 : decode cX6_inHall 29 = .ok (.iconst 1, 1) := by decide +kernel
theorem dX6_inHall_30 : decode cX6_inHall 30 = .ok (.if_icmp .ne 35, 3) := by decide +kernel
theorem dX6_inHall_33 : decode cX6_inHall 33 = .ok (.aload_n 0, 1) := by decide +kernel
theorem dX6_inHall_34 : decode cX6_inHall 34 = .ok (.getfield 7, 3) := by decide +kernel
theorem dX6_inHall_37 : decode cX6_inHall 37 = .ok (.aload_n 0, 1) := by decide +kernel
theorem dX6_inHall_38 : decode cX6_inHall 38 = .ok (.getfield 19, 3) := by decide +kernel
theorem dX6_inHall_41 : decode cX6_inHall 41 = .ok (.iload 5, 2) := by decide +kernel
theorem dX6_inHall_43 : decode cX6_inHall 43 = .ok (.iaload, 1) := by decide +kernel
theorem dX6_inHall_44 : decode cX6_inHall 44 = .ok (.iconst 3, 1) := by decide +kernel
theorem dX6_inHall_45 : decode cX6_inHall 45 = .ok (.iadd, 1) := by decide +kernel
theorem dX6_inHall_46 : decode cX6_inHall 46 = .ok (.iaload, 1) := by decide +kernel
theorem dX6_inHall_47 : decode cX6_inHall 47 = .ok (.aload_n 0, 1) := by decide +kernel
theorem dX6_inHall_48 : decode cX6_inHall 48 = .ok (.getfield 7, 3) := by decide +kernel
theorem dX6_inHall_51 : decode cX6_inHall 51 = .ok (.aload_n 0, 1) := by decide +kernel
theorem dX6_inHall_52 : decode cX6_inHall 52 = .ok (.getfield 19, 3) := by decide +kernel
theorem dX6_inHall_55 : decode cX6_inHall 55 = .ok (.iload 5, 2) := by decide +kernel
theorem dX6_inHall_57 : decode cX6_inHall 57 = .ok (.iaload, 1) := by decide +kernel
theorem dX6_inHall_58 : decode cX6_inHall 58 = .ok (.iconst 2, 1) := by decide +kernel
theorem dX6_inHall_59 : decode cX6_inHall 59 = .ok (.iadd, 1) := by decide +kernel
theorem dX6_inHall_60 : decode cX6_inHall 60 = .ok (.iaload, 1) := by decide +kernel
theorem dX6_inHall_61 : decode cX6_inHall 61 = .ok (.isub, 1) := by decide +kernel
theorem dX6_inHall_62 : decode cX6_inHall 62 = .ok (.goto 18, 3) := by decide +kernel
theorem dX6_inHall_65 : decode cX6_inHall 65 = .ok (.aload_n 0, 1) := by decide +kernel
theorem dX6_inHall_66 : decode cX6_inHall 66 = .ok (.getfield 7, 3) := by decide +kernel
theorem dX6_inHall_69 : decode cX6_inHall 69 = .ok (.aload_n 0, 1) := by decide +kernel
theorem dX6_inHall_70 : decode cX6_inHall 70 = .ok (.getfield 19, 3) := by decide +kernel
theorem dX6_inHall_73 : decode cX6_inHall 73 = .ok (.iload 5, 2) := by decide +kernel
theorem dX6_inHall_75 : decode cX6_inHall 75 = .ok (.iaload, 1) := by decide +kernel
theorem dX6_inHall_76 : decode cX6_inHall 76 = .ok (.bipush 6, 2) := by decide +kernel
theorem dX6_inHall_78 : decode cX6_inHall 78 = .ok (.iadd, 1) := by decide +kernel
theorem dX6_inHall_79 : decode cX6_inHall 79 = .ok (.iaload, 1) := by decide +kernel
theorem dX6_inHall_80 : decode cX6_inHall 80 = .ok (.istore 6, 2) := by decide +kernel
theorem dX6_inHall_82 : decode cX6_inHall 82 = .ok (.iload 4, 2) := by decide +kernel
theorem dX6_inHall_84 : decode cX6_inHall 84 = .ok (.aload_n 0, 1) := by decide +kernel
theorem dX6_inHall_85 : decode cX6_inHall 85 = .ok (.getfield 7, 3) := by decide +kernel
theorem dX6_inHall_88 : decode cX6_inHall 88 = .ok (.aload_n 0, 1) := by decide +kernel
theorem dX6_inHall_89 : decode cX6_inHall 89 = .ok (.getfield 19, 3) := by decide +kernel
theorem dX6_inHall_92 : decode cX6_inHall 92 = .ok (.iload 5, 2) := by decide +kernel
theorem dX6_inHall_94 : decode cX6_inHall 94 = .ok (.iaload, 1) := by decide +kernel
theorem dX6_inHall_95 : decode cX6_inHall 95 = .ok (.iconst 0, 1) := by decide +kernel
theorem dX6_inHall_96 : decode cX6_inHall 96 = .ok (.iadd, 1) := by decide +kernel
theorem dX6_inHall_97 : decode cX6_inHall 97 = .ok (.iaload, 1) := by decide +kernel
theorem dX6_inHall_98 : decode cX6_inHall 98 = .ok (.iload_n 1, 1) := by decide +kernel
theorem dX6_inHall_99 : decode cX6_inHall 99 = .ok (.if_icmp .ne 8, 3) := by decide +kernel
theorem dX6_inHall_102 : decode cX6_inHall 102 = .ok (.iload 6, 2) := by decide +kernel
theorem dX6_inHall_104 : decode cX6_inHall 104 = .ok (.goto 4, 3) := by decide +kernel
theorem dX6_inHall_107 : decode cX6_inHall 107 = .ok (.iconst 0, 1) := by decide +kernel
theorem dX6_inHall_108 : decode cX6_inHall 108 = .ok (.iadd, 1) := by decide +kernel
theorem dX6_inHall_109 : decode cX6_inHall 109 = .ok (.istore 4, 2) := by decide +kernel
theorem dX6_inHall_111 : decode cX6_inHall 111 = .ok (.iinc 5 1, 3) := by decide +kernel
theorem dX6_inHall_114 : decode cX6_inHall 114 = .ok (.goto (-103), 3) := by decide +kernel
theorem dX6_inHall_117 : decode cX6_inHall 117 = .ok (.iload 4, 2) := by decide +kernel
theorem dX6_inHall_119 : decode cX6_inHall 119 = .ok (.ireturn, 1) := by decide +kernel
theorem dX6_ofHall_0 : decode cX6_ofHall 0 = .ok (.iload_n 3, 1) := by decide +kernel
theorem dX6_ofHall_1 : decode cX6_ofHall 1 = .ok (.ifCond .ne 13, 3) := by decide +kernel
theorem dX6_ofHall_4 : decode cX6_ofHall 4 = .ok (.aload_n 0, 1) := by decide +kernel
theorem dX6_ofHall_5 : decode cX6_ofHall 5 = .ok (.iload_n 1, 1) := by decide +kernel
theorem dX6_ofHall_6 : decode cX6_ofHall 6 = .ok (.iload_n 2, 1) := by decide +kernel
theorem dX6_ofHall_7 : decode cX6_ofHall 7 = .ok (.iconst 0, 1) := by decide +kernel
theorem dX6_ofHall_8 : decode cX6_ofHall 8 = .ok (.invokevirtual 207, 3) := by decide +kernel
theorem dX6_ofHall_11 : decode cX6_ofHall 11 = .ok (.goto 28, 3) := by decide +kernel
theorem dX6_ofHall_14 : decode cX6_ofHall 14 = .ok (.iload_n 3, 1) := by decide +kernel
theorem dX6_ofHall_15 : decode cX6_ofHall 15 = .ok (.iconst 3, 1) := by decide +kernel
theorem dX6_ofHall_16 : decode cX6_ofHall 16 = .ok (.if_icmp .ne 13, 3) := by decide +kernel
theorem dX6_ofHall_19 : decode cX6_ofHall 19 = .ok (.aload_n 0, 1) := by decide +kernel
theorem dX6_ofHall_20 : decode cX6_ofHall 20 = .ok (.iload_n 1, 1) := by decide +kernel
theorem dX6_ofHall_21 : decode cX6_ofHall 21 = .ok (.iload_n 2, 1) := by decide +kernel
theorem dX6_ofHall_22 : decode cX6_ofHall 22 = .ok (.iconst 2, 1) := by decide +kernel
theorem dX6_ofHall_23 : decode cX6_ofHall 23 = .ok (.invokevirtual 207, 3) := by decide +kernel
theorem dX6_ofHall_26 : decode cX6_ofHall 26 = .ok (.goto 13, 3) := by decide +kernel
theorem dX6_ofHall_29 : decode cX6_ofHall 29 = .ok (.bipush 24, 2) := by decide +kernel
theorem dX6_ofHall_31 : decode cX6_ofHall 31 = .ok (.aload_n 0, 1) := by decide +kernel
theorem dX6_ofHall_32 : decode cX6_ofHall 32 = .ok (.iload_n 1, 1) := by decide +kernel
theorem dX6_ofHall_33 : decode cX6_ofHall 33 = .ok (.iload_n 2, 1) := by decide +kernel
theorem dX6_ofHall_34 : decode cX6_ofHall 34 = .ok (.iconst 1, 1) := by decide +kernel
theorem dX6_ofHall_35 : decode cX6_ofHall 35 = .ok (.invokevirtual 207, 3) := by decide +kernel
theorem dX6_ofHall_38 : decode cX6_ofHall 38 = .ok (.isub, 1) := by decide +kernel
theorem dX6_ofHall_39 : decode cX6_ofHall 39 = .ok (.ireturn, 1) := by decide +kernel
theorem dX6_hallOf_0 : decode cX6_hallOf 0 = .ok (.aload_n 0, 1) := by decide +kernel
theorem dX6_hallOf_1 : decode cX6_hallOf 1 = .ok (.iconst 0, 1) := by decide +kernel
theorem dX6_hallOf_2 : decode cX6_hallOf 2 = .ok (.putfield 37, 3) := by decide +kernel
theorem dX6_hallOf_5 : decode cX6_hallOf 5 = .ok (.iload_n 1, 1) := by decide +kernel
theorem dX6_hallOf_6 : decode cX6_hallOf 6 = .ok (.invokestatic 117, 3) := by decide +kernel
theorem dX6_hallOf_9 : decode cX6_hallOf 9 = .ok (.ifCond .ne 9, 3) := by decide +kernel
theorem dX6_hallOf_12 : decode cX6_hallOf 12 = .ok (.aload_n 0, 1) := by decide +kernel
theorem dX6_hallOf_13 : decode cX6_hallOf 13 = .ok (.iconst 1, 1) := by decide +kernel
theorem dX6_hallOf_14 : decode cX6_hallOf 14 = .ok (.invokevirtual 48, 3) := by decide +kernel
theorem dX6_hallOf_17 : decode cX6_hallOf 17 = .ok (.ireturn, 1) := by decide +kernel
theorem dX6_hallOf_18 : decode cX6_hallOf 18 = .ok (.iload_n 2, 1) := by decide +kernel
theorem dX6_hallOf_19 : decode cX6_hallOf 19 = .ok (.invokestatic 121, 3) := by decide +kernel
theorem dX6_hallOf_22 : decode cX6_hallOf 22 = .ok (.ifCond .eq 22, 3) := by decide +kernel
theorem dX6_hallOf_25 : decode cX6_hallOf 25 = .ok (.iload_n 3, 1) := by decide +kernel
theorem dX6_hallOf_26 : decode cX6_hallOf 26 = .ok (.iconst 0, 1) := by decide +kernel
theorem dX6_hallOf_27 : decode cX6_hallOf 27 = .ok (.iconst 3, 1) := by decide +kernel
theorem dX6_hallOf_28 : decode cX6_hallOf 28 = .ok (.invokestatic 41, 3) := by decide +kernel
theorem dX6_hallOf_31 : decode cX6_hallOf 31 = .ok (.ifCond .eq 13, 3) := by decide +kernel
theorem dX6_hallOf_34 : decode cX6_hallOf 34 = .ok (.aload_n 0, 1) := by decide +kernel
theorem dX6_hallOf_35 : decode cX6_hallOf 35 = .ok (.iload_n 1, 1) := by decide +kernel
theorem dX6_hallOf_36 : decode cX6_hallOf 36 = .ok (.iload_n 2, 1) := by decide +kernel
theorem dX6_hallOf_37 : decode cX6_hallOf 37 = .ok (.iload_n 3, 1) := by decide +kernel
theorem dX6_hallOf_38 : decode cX6_hallOf 38 = .ok (.invokevirtual 210, 3) := by decide +kernel
theorem dX6_hallOf_41 : decode cX6_hallOf 41 = .ok (.goto 8, 3) := by decide +kernel
theorem dX6_hallOf_44 : decode cX6_hallOf 44 = .ok (.aload_n 0, 1) := by decide +kernel
theorem dX6_hallOf_45 : decode cX6_hallOf 45 = .ok (.iconst 2, 1) := by decide +kernel
theorem dX6_hallOf_46 : decode cX6_hallOf 46 = .ok (.invokevirtual 48, 3) := by decide +kernel
theorem dX6_hallOf_49 : decode cX6_hallOf 49 = .ok (.ireturn, 1) := by decide +kernel
theorem dX6_ofTenant_0 : decode cX6_ofTenant 0 = .ok (.iconst 0, 1) := by decide +kernel
theorem dX6_ofTenant_1 : decode cX6_ofTenant 1 = .ok (.istore_n 3, 1) := by decide +kernel
theorem dX6_ofTenant_2 : decode cX6_ofTenant 2 = .ok (.iconst 0, 1) := by decide +kernel
theorem dX6_ofTenant_3 : decode cX6_ofTenant 3 = .ok (.istore 4, 2) := by decide +kernel
theorem dX6_ofTenant_5 : decode cX6_ofTenant 5 = .ok (.iload 4, 2) := by decide +kernel
theorem dX6_ofTenant_7 : decode cX6_ofTenant 7 = .ok (.aload_n 0, 1) := by decide +kernel
theorem dX6_ofTenant_8 : decode cX6_ofTenant 8 = .ok (.getfield 7, 3) := by decide +kernel
theorem dX6_ofTenant_11 : decode cX6_ofTenant 11 = .ok (.bipush 11, 2) := by decide +kernel
theorem dX6_ofTenant_13 : decode cX6_ofTenant 13 = .ok (.iaload, 1) := by decide +kernel
theorem dX6_ofTenant_14 : decode cX6_ofTenant 14 = .ok (.if_icmp .ge 73, 3) := by decide +kernel
theorem dX6_ofTenant_17 : decode cX6_ofTenant 17 = .ok (.iload_n 2, 1) := by decide +kernel
theorem dX6_ofTenant_18 : decode cX6_ofTenant 18 = .ok (.ifCond .ne 7, 3) := by decide +kernel
theorem dX6_ofTenant_21 : decode cX6_ofTenant 21 = .ok (.iconst 1, 1) := by decide +kernel
theorem dX6_ofTenant_22 : decode cX6_ofTenant 22 = .ok (.goto 32, 3) := by decide +kernel
theorem dX6_ofTenant_25 : decode cX6_ofTenant 25 = .ok (.iload_n 2, 1) := by decide +kernel
theorem dX6_ofTenant_26 : decode cX6_ofTenant 26 = .ok (.iconst 1, 1) := by decide +kernel
theorem dX6_ofTenant_27 : decode cX6_ofTenant 27 = .ok (.if_icmp .ne 12, 3) := by decide +kernel
theorem dX6_ofTenant_30 : decode cX6_ofTenant 30 = .ok (.aload_n 0, 1) := by decide +kernel
theorem dX6_ofTenant_31 : decode cX6_ofTenant 31 = .ok (.iload 4, 2) := by decide +kernel
theorem dX6_ofTenant_33 : decode cX6_ofTenant 33 = .ok (.invokevirtual 149, 3) := by decide +kernel
theorem dX6_ofTenant_36 : decode cX6_ofTenant 36 = .ok (.goto 18, 3) := by decide +kernel
theorem dX6_ofTenant_39 : decode cX6_ofTenant 39 = .ok (.aload_n 0, 1) := by decide +kernel
theorem dX6_ofTenant_40 : decode cX6_ofTenant 40 = .ok (.iload 4, 2) := by decide +kernel
theorem dX6_ofTenant_42 : decode cX6_ofTenant 42 = .ok (.invokevirtual 149, 3) := by decide +kernel
theorem dX6_ofTenant_45 : decode cX6_ofTenant 45 = .ok (.aload_n 0, 1) := by decide +kernel
theorem dX6_ofTenant_46 : decode cX6_ofTenant 46 = .ok (.iload 4, 2) := by decide +kernel
theorem dX6_ofTenant_48 : decode cX6_ofTenant 48 = .ok (.bipush 6, 2) := by decide +kernel
theorem dX6_ofTenant_50 : decode cX6_ofTenant 50 = .ok (.invokevirtual 63, 3) := by decide +kernel
theorem dX6_ofTenant_53 : decode cX6_ofTenant 53 = .ok (.imul, 1) := by decide +kernel
theorem dX6_ofTenant_54 : decode cX6_ofTenant 54 = .ok (.istore 5, 2) := by decide +kernel
theorem dX6_ofTenant_56 : decode cX6_ofTenant 56 = .ok (.iload_n 3, 1) := by decide +kernel
theorem dX6_ofTenant_57 : decode cX6_ofTenant 57 = .ok (.iload_n 1, 1) := by decide +kernel
theorem dX6_ofTenant_58 : decode cX6_ofTenant 58 = .ok (.iconst (-1), 1) := by decide +kernel
theorem dX6_ofTenant_59 : decode cX6_ofTenant 59 = .ok (.if_icmp .eq 14, 3) := by decide +kernel
theorem dX6_ofTenant_62 : decode cX6_ofTenant 62 = .ok (.aload_n 0, 1) := by decide +kernel
theorem dX6_ofTenant_63 : decode cX6_ofTenant 63 = .ok (.iload 4, 2) := by decide +kernel
theorem dX6_ofTenant_65 : decode cX6_ofTenant 65 = .ok (.iconst 5, 1) := by decide +kernel
theorem dX6_ofTenant_66 : decode cX6_ofTenant 66 = .ok (.invokevirtual 63, 3) := by decide +kernel
theorem dX6_ofTenant_69 : decode cX6_ofTenant 69 = .ok (.iload_n 1, 1) := by decide +kernel
theorem dX6_ofTenant_70 : decode cX6_ofTenant 70 = .ok (.if_icmp .ne 8, 3) := by decide +kernel
theorem dX6_ofTenant_73 : decode cX6_ofTenant 73 = .ok (.iload 5, 2) := by decide +kernel
theorem dX6_ofTenant_75 : decode cX6_ofTenant 75 = .ok (.goto 4, 3) := by decide +kernel
theorem dX6_ofTenant_78 : decode cX6_ofTenant 78 = .ok (.iconst 0, 1) := by decide +kernel
theorem dX6_ofTenant_79 : decode cX6_ofTenant 79 = .ok (.iadd, 1) := by decide +kernel
theorem dX6_ofTenant_80 : decode cX6_ofTenant 80 = .ok (.istore_n 3, 1) := by decide +kernel
theorem dX6_ofTenant_81 : decode cX6_ofTenant 81 = .ok (.iinc 4 1, 3) := by decide +kernel
theorem dX6_ofTenant_84 : decode cX6_ofTenant 84 = .ok (.goto (-79), 3) := by decide +kernel
theorem dX6_ofTenant_87 : decode cX6_ofTenant 87 = .ok (.iconst 0, 1) := by decide +kernel
theorem dX6_ofTenant_88 : decode cX6_ofTenant 88 = .ok (.istore 4, 2) := by decide +kernel
theorem dX6_ofTenant_90 : decode cX6_ofTenant 90 = .ok (.iload 4, 2) := by decide +kernel
theorem dX6_ofTenant_92 : decode cX6_ofTenant 92 = .ok (.aload_n 0, 1) := by decide +kernel
theorem dX6_ofTenant_93 : decode cX6_ofTenant 93 = .ok (.getfield 7, 3) := by decide +kernel
theorem dX6_ofTenant_96 : decode cX6_ofTenant 96 = .ok (.bipush 92, 2) := by decide +kernel
theorem dX6_ofTenant_98 : decode cX6_ofTenant 98 = .ok (.iaload, 1) := by decide +kernel
theorem dX6_ofTenant_99 : decode cX6_ofTenant 99 = .ok (.if_icmp .ge 53, 3) := by decide +kernel
theorem dX6_ofTenant_102 : decode cX6_ofTenant 102 = .ok (.iload_n 2, 1) := by decide +kernel
theorem dX6_ofTenant_103 : decode cX6_ofTenant 103 = .ok (.iconst 2, 1) := by decide +kernel
theorem dX6_ofTenant_104 : decode cX6_ofTenant 104 = .ok (.if_icmp .ge 7, 3) := by decide +kernel
theorem dX6_ofTenant_107 : decode cX6_ofTenant 107 = .ok (.iconst 1, 1) := by decide +kernel
theorem dX6_ofTenant_108 : decode cX6_ofTenant 108 = .ok (.goto 11, 3) := by decide +kernel
theorem dX6_ofTenant_111 : decode cX6_ofTenant 111 = .ok (.aload_n 0, 1) := by decide +kernel
theorem dX6_ofTenant_112 : decode cX6_ofTenant 112 = .ok (.iload 4, 2) := by decide +kernel
theorem dX6_ofTenant_114 : decode cX6_ofTenant 114 = .ok (.bipush 6, 2) := by decide +kernel
theorem dX6_ofTenant_116 : decode cX6_ofTenant 116 = .ok (.invokevirtual 74, 3) := by decide +kernel
theorem dX6_ofTenant_119 : decode cX6_ofTenant 119 = .ok (.istore 5, 2) := by decide +kernel
theorem dX6_ofTenant_121 : decode cX6_ofTenant 121 = .ok (.iload_n 3, 1) := by decide +kernel
theorem dX6_ofTenant_122 : decode cX6_ofTenant 122 = .ok (.iload_n 1, 1) := by decide +kernel
theorem dX6_ofTenant_123 : decode cX6_ofTenant 123 = .ok (.iconst (-1), 1) := by decide +kernel
theorem dX6_ofTenant_124 : decode cX6_ofTenant 124 = .ok (.if_icmp .eq 14, 3) := by decide +kernel
theorem dX6_ofTenant_127 : decode cX6_ofTenant 127 = .ok (.aload_n 0, 1) := by decide +kernel
theorem dX6_ofTenant_128 : decode cX6_ofTenant 128 = .ok (.iload 4, 2) := by decide +kernel
theorem dX6_ofTenant_130 : decode cX6_ofTenant 130 = .ok (.iconst 5, 1) := by decide +kernel
theorem dX6_ofTenant_131 : decode cX6_ofTenant 131 = .ok (.invokevirtual 74, 3) := by decide +kernel
theorem dX6_ofTenant_134 : decode cX6_ofTenant 134 = .ok (.iload_n 1, 1) := by decide +kernel
theorem dX6_ofTenant_135 : decode cX6_ofTenant 135 = .ok (.if_icmp .ne 8, 3) := by decide +kernel
theorem dX6_ofTenant_138 : decode cX6_ofTenant 138 = .ok (.iload 5, 2) := by decide +kernel
theorem dX6_ofTenant_140 : decode cX6_ofTenant 140 = .ok (.goto 4, 3) := by decide +kernel
theorem dX6_ofTenant_143 : decode cX6_ofTenant 143 = .ok (.iconst 0, 1) := by decide +kernel
theorem dX6_ofTenant_144 : decode cX6_ofTenant 144 = .ok (.iadd, 1) := by decide +kernel
theorem dX6_ofTenant_145 : decode cX6_ofTenant 145 = .ok (.istore_n 3, 1) := by decide +kernel
theorem dX6_ofTenant_146 : decode cX6_ofTenant 146 = .ok (.iinc 4 1, 3) := by decide +kernel
theorem dX6_ofTenant_149 : decode cX6_ofTenant 149 = .ok (.goto (-59), 3) := by decide +kernel
theorem dX6_ofTenant_152 : decode cX6_ofTenant 152 = .ok (.iload_n 3, 1) := by decide +kernel
theorem dX6_ofTenant_153 : decode cX6_ofTenant 153 = .ok (.ireturn, 1) := by decide +kernel
theorem dX6_tenant_0 : decode cX6_tenant 0 = .ok (.aload_n 0, 1) := by decide +kernel
theorem dX6_tenant_1 : decode cX6_tenant 1 = .ok (.iconst 0, 1) := by decide +kernel
theorem dX6_tenant_2 : decode cX6_tenant 2 = .ok (.putfield 37, 3) := by decide +kernel
theorem dX6_tenant_5 : decode cX6_tenant 5 = .ok (.iload_n 1, 1) := by decide +kernel
theorem dX6_tenant_6 : decode cX6_tenant 6 = .ok (.iconst 0, 1) := by decide +kernel
theorem dX6_tenant_7 : decode cX6_tenant 7 = .ok (.bipush 19, 2) := by decide +kernel
theorem dX6_tenant_9 : decode cX6_tenant 9 = .ok (.invokestatic 41, 3) := by decide +kernel
theorem dX6_tenant_12 : decode cX6_tenant 12 = .ok (.ifCond .ne 9, 3) := by decide +kernel
theorem dX6_tenant_15 : decode cX6_tenant 15 = .ok (.aload_n 0, 1) := by decide +kernel
theorem dX6_tenant_16 : decode cX6_tenant 16 = .ok (.iconst 1, 1) := by decide +kernel
theorem dX6_tenant_17 : decode cX6_tenant 17 = .ok (.invokevirtual 48, 3) := by decide +kernel
theorem dX6_tenant_20 : decode cX6_tenant 20 = .ok (.ireturn, 1) := by decide +kernel
theorem dX6_tenant_21 : decode cX6_tenant 21 = .ok (.iload_n 2, 1) := by decide +kernel
theorem dX6_tenant_22 : decode cX6_tenant 22 = .ok (.iconst 0, 1) := by decide +kernel
theorem dX6_tenant_23 : decode cX6_tenant 23 = .ok (.iconst 2, 1) := by decide +kernel
theorem dX6_tenant_24 : decode cX6_tenant 24 = .ok (.invokestatic 41, 3) := by decide +kernel
theorem dX6_tenant_27 : decode cX6_tenant 27 = .ok (.ifCond .eq 12, 3) := by decide +kernel
theorem dX6_tenant_30 : decode cX6_tenant 30 = .ok (.aload_n 0, 1) := by decide +kernel
theorem dX6_tenant_31 : decode cX6_tenant 31 = .ok (.iload_n 1, 1) := by decide +kernel
theorem dX6_tenant_32 : decode cX6_tenant 32 = .ok (.iload_n 2, 1) := by decide +kernel
theorem dX6_tenant_33 : decode cX6_tenant 33 = .ok (.invokevirtual 213, 3) := by decide +kernel
theorem dX6_tenant_36 : decode cX6_tenant 36 = .ok (.goto 8, 3) := by decide +kernel
theorem dX6_tenant_39 : decode cX6_tenant 39 = .ok (.aload_n 0, 1) := by decide +kernel
theorem dX6_tenant_40 : decode cX6_tenant 40 = .ok (.iconst 2, 1) := by decide +kernel
theorem dX6_tenant_41 : decode cX6_tenant 41 = .ok (.invokevirtual 48, 3) := by decide +kernel
theorem dX6_tenant_44 : decode cX6_tenant 44 = .ok (.ireturn, 1) := by decide +kernel
theorem dX6_count0_0 : decode cX6_count0 0 = .ok (.iload_n 1, 1) := by decide +kernel
theorem dX6_count0_1 : decode cX6_count0 1 = .ok (.tableswitch 126 0 12 #[67, 75, 83, 90, 97, 105, 113, 126, 126, 126, 126, 126, 121], 67) := by decide +kernel
theorem dX6_count0_68 : decode cX6_count0 68 = .ok (.aload_n 0, 1) := by decide +kernel
theorem dX6_count0_69 : decode cX6_count0 69 = .ok (.getfield 7, 3) := by decide +kernel
theorem dX6_count0_72 : decode cX6_count0 72 = .ok (.bipush 11, 2) := by decide +kernel
theorem dX6_count0_74 : decode cX6_count0 74 = .ok (.iaload, 1) := by decide +kernel
theorem dX6_count0_75 : decode cX6_count0 75 = .ok (.ireturn, 1) := by decide +kernel
theorem dX6_count0_76 : decode cX6_count0 76 = .ok (.aload_n 0, 1) := by decide +kernel
theorem dX6_count0_77 : decode cX6_count0 77 = .ok (.getfield 7, 3) := by decide +kernel
theorem dX6_count0_80 : decode cX6_count0 80 = .ok (.bipush 92, 2) := by decide +kernel
theorem dX6_count0_82 : decode cX6_count0 82 = .ok (.iaload, 1) := by decide +kernel
theorem dX6_count0_83 : decode cX6_count0 83 = .ok (.ireturn, 1) := by decide +kernel
theorem dX6_count0_84 : decode cX6_count0 84 = .ok (.aload_n 0, 1) := by decide +kernel
theorem dX6_count0_85 : decode cX6_count0 85 = .ok (.iconst (-1), 1) := by decide +kernel
theorem dX6_count0_86 : decode cX6_count0 86 = .ok (.iconst 1, 1) := by decide +kernel
theorem dX6_count0_87 : decode cX6_count0 87 = .ok (.invokevirtual 213, 3) := by decide +kernel
theorem dX6_count0_90 : decode cX6_count0 90 = .ok (.ireturn, 1) := by decide +kernel
theorem dX6_count0_91 : decode cX6_count0 91 = .ok (.aload_n 0, 1) := by decide +kernel
theorem dX6_count0_92 : decode cX6_count0 92 = .ok (.iconst (-1), 1) := by decide +kernel
theorem dX6_count0_93 : decode cX6_count0 93 = .ok (.iconst 2, 1) := by decide +kernel
theorem dX6_count0_94 : decode cX6_count0 94 = .ok (.invokevirtual 213, 3) := by decide +kernel
theorem dX6_count0_97 : decode cX6_count0 97 = .ok (.ireturn, 1) := by decide +kernel
theorem dX6_count0_98 : decode cX6_count0 98 = .ok (.aload_n 0, 1) := by decide +kernel
theorem dX6_count0_99 : decode cX6_count0 99 = .ok (.getfield 7, 3) := by decide +kernel
theorem dX6_count0_102 : decode cX6_count0 102 = .ok (.bipush 8, 2) := by decide +kernel
theorem dX6_count0_104 : decode cX6_count0 104 = .ok (.iaload, 1) := by decide +kernel
theorem dX6_count0_105 : decode cX6_count0 105 = .ok (.ireturn, 1) := by decide +kernel
theorem dX6_count0_106 : decode cX6_count0 106 = .ok (.aload_n 0, 1) := by decide +kernel
theorem dX6_count0_107 : decode cX6_count0 107 = .ok (.getfield 7, 3) := by decide +kernel
theorem dX6_count0_110 : decode cX6_count0 110 = .ok (.bipush 9, 2) := by decide +kernel
theorem dX6_count0_112 : decode cX6_count0 112 = .ok (.iaload, 1) := by decide +kernel
theorem dX6_count0_113 : decode cX6_count0 113 = .ok (.ireturn, 1) := by decide +kernel
theorem dX6_count0_114 : decode cX6_count0 114 = .ok (.aload_n 0, 1) := by decide +kernel
theorem dX6_count0_115 : decode cX6_count0 115 = .ok (.getfield 7, 3) := by decide +kernel
theorem dX6_count0_118 : decode cX6_count0 118 = .ok (.bipush 10, 2) := by decide +kernel
theorem dX6_count0_120 : decode cX6_count0 120 = .ok (.iaload, 1) := by decide +kernel
theorem dX6_count0_121 : decode cX6_count0 121 = .ok (.ireturn, 1) := by decide +kernel
theorem dX6_count0_122 : decode cX6_count0 122 = .ok (.aload_n 0, 1) := by decide +kernel
theorem dX6_count0_123 : decode cX6_count0 123 = .ok (.getfield 45, 3) := by decide +kernel
theorem dX6_count0_126 : decode cX6_count0 126 = .ok (.ireturn, 1) := by decide +kernel
theorem dX6_count0_127 : decode cX6_count0 127 = .ok (.aload_n 0, 1) := by decide +kernel
theorem dX6_count0_128 : decode cX6_count0 128 = .ok (.getfield 7, 3) := by decide +kernel
theorem dX6_count0_131 : decode cX6_count0 131 = .ok (.iload_n 1, 1) := by decide +kernel
theorem dX6_count0_132 : decode cX6_count0 132 = .ok (.bipush 7, 2) := by decide +kernel
theorem dX6_count0_134 : decode cX6_count0 134 = .ok (.isub, 1) := by decide +kernel
theorem dX6_count0_135 : decode cX6_count0 135 = .ok (.iaload, 1) := by decide +kernel
theorem dX6_count0_136 : decode cX6_count0 136 = .ok (.ireturn, 1) := by decide +kernel
theorem dX6_count_0 : decode cX6_count 0 = .ok (.aload_n 0, 1) := by decide +kernel
theorem dX6_count_1 : decode cX6_count 1 = .ok (.iconst 0, 1) := by decide +kernel
theorem dX6_count_2 : decode cX6_count 2 = .ok (.putfield 37, 3) := by decide +kernel
theorem dX6_count_5 : decode cX6_count 5 = .ok (.iload_n 1, 1) := by decide +kernel
theorem dX6_count_6 : decode cX6_count 6 = .ok (.iconst 0, 1) := by decide +kernel
theorem dX6_count_7 : decode cX6_count 7 = .ok (.bipush 12, 2) := by decide +kernel
theorem dX6_count_9 : decode cX6_count 9 = .ok (.invokestatic 41, 3) := by decide +kernel
theorem dX6_count_12 : decode cX6_count 12 = .ok (.ifCond .eq 11, 3) := by decide +kernel
theorem dX6_count_15 : decode cX6_count 15 = .ok (.aload_n 0, 1) := by decide +kernel
theorem dX6_count_16 : decode cX6_count 16 = .ok (.iload_n 1, 1) := by decide +kernel
theorem dX6_count_17 : decode cX6_count 17 = .ok (.invokevirtual 216, 3) := by decide +kernel
theorem dX6_count_20 : decode cX6_count 20 = .ok (.goto 8, 3) := by decide +kernel
theorem dX6_count_23 : decode cX6_count 23 = .ok (.aload_n 0, 1) := by decide +kernel
theorem dX6_count_24 : decode cX6_count 24 = .ok (.iconst 1, 1) := by decide +kernel
theorem dX6_count_25 : decode cX6_count 25 = .ok (.invokevirtual 48, 3) := by decide +kernel
theorem dX6_count_28 : decode cX6_count 28 = .ok (.ireturn, 1) := by decide +kernel
theorem dX6_refusal_0 : decode cX6_refusal 0 = .ok (.aload_n 0, 1) := by decide +kernel
theorem dX6_refusal_1 : decode cX6_refusal 1 = .ok (.iconst 0, 1) := by decide +kernel
theorem dX6_refusal_2 : decode cX6_refusal 2 = .ok (.putfield 37, 3) := by decide +kernel
theorem dX6_refusal_5 : decode cX6_refusal 5 = .ok (.iload_n 1, 1) := by decide +kernel
theorem dX6_refusal_6 : decode cX6_refusal 6 = .ok (.invokestatic 117, 3) := by decide +kernel
theorem dX6_refusal_9 : decode cX6_refusal 9 = .ok (.ifCond .ne 9, 3) := by decide +kernel
theorem dX6_refusal_12 : decode cX6_refusal 12 = .ok (.aload_n 0, 1) := by decide +kernel
theorem dX6_refusal_13 : decode cX6_refusal 13 = .ok (.iconst 1, 1) := by decide +kernel
theorem dX6_refusal_14 : decode cX6_refusal 14 = .ok (.invokevirtual 48, 3) := by decide +kernel
theorem dX6_refusal_17 : decode cX6_refusal 17 = .ok (.ireturn, 1) := by decide +kernel
theorem dX6_refusal_18 : decode cX6_refusal 18 = .ok (.iload_n 2, 1) := by decide +kernel
theorem dX6_refusal_19 : decode cX6_refusal 19 = .ok (.invokestatic 121, 3) := by decide +kernel
theorem dX6_refusal_22 : decode cX6_refusal 22 = .ok (.ifCond .eq 37, 3) := by decide +kernel
theorem dX6_refusal_25 : decode cX6_refusal 25 = .ok (.iload_n 3, 1) := by decide +kernel
theorem dX6_refusal_26 : decode cX6_refusal 26 = .ok (.iload 4, 2) := by decide +kernel
theorem dX6_refusal_28 : decode cX6_refusal 28 = .ok (.invokestatic 124, 3) := by decide +kernel
theorem dX6_refusal_31 : decode cX6_refusal 31 = .ok (.ifCond .eq 28, 3) := by decide +kernel
theorem dX6_refusal_34 : decode cX6_refusal 34 = .ok (.iload 5, 2) := by decide +kernel
theorem dX6_refusal_36 : decode cX6_refusal 36 = .ok (.iconst 1, 1) := by decide +kernel
theorem dX6_refusal_37 : decode cX6_refusal 37 = .ok (.bipush 9, 2) := by decide +kernel
theorem dX6_refusal_39 : decode cX6_refusal 39 = .ok (.invokestatic 41, 3) := by decide +kernel
theorem dX6_refusal_42 : decode cX6_refusal 42 = .ok (.ifCond .eq 17, 3) := by decide +kernel
theorem dX6_refusal_45 : decode cX6_refusal 45 = .ok (.aload_n 0, 1) := by decide +kernel
theorem dX6_refusal_46 : decode cX6_refusal 46 = .ok (.iload_n 1, 1) := by decide +kernel
theorem dX6_refusal_47 : decode cX6_refusal 47 = .ok (.iload_n 2, 1) := by decide +kernel
theorem dX6_refusal_48 : decode cX6_refusal 48 = .ok (.iload_n 3, 1) := by decide +kernel
theorem dX6_refusal_49 : decode cX6_refusal 49 = .ok (.iload 4, 2) := by decide +kernel
theorem dX6_refusal_51 : decode cX6_refusal 51 = .ok (.iload 5, 2) := by decide +kernel
theorem dX6_refusal_53 : decode cX6_refusal 53 = .ok (.invokevirtual 130, 3) := by decide +kernel
theorem dX6_refusal_56 : decode cX6_refusal 56 = .ok (.goto 8, 3) := by decide +kernel
theorem dX6_refusal_59 : decode cX6_refusal 59 = .ok (.aload_n 0, 1) := by decide +kernel
theorem dX6_refusal_60 : decode cX6_refusal 60 = .ok (.iconst 2, 1) := by decide +kernel
theorem dX6_refusal_61 : decode cX6_refusal 61 = .ok (.invokevirtual 48, 3) := by decide +kernel
theorem dX6_refusal_64 : decode cX6_refusal 64 = .ok (.ireturn, 1) := by decide +kernel
theorem dX6_price_0 : decode cX6_price 0 = .ok (.aload_n 0, 1) := by decide +kernel
theorem dX6_price_1 : decode cX6_price 1 = .ok (.iconst 0, 1) := by decide +kernel
theorem dX6_price_2 : decode cX6_price 2 = .ok (.putfield 37, 3) := by decide +kernel
theorem dX6_price_5 : decode cX6_price 5 = .ok (.iload_n 1, 1) := by decide +kernel
theorem dX6_price_6 : decode cX6_price 6 = .ok (.invokestatic 117, 3) := by decide +kernel
theorem dX6_price_9 : decode cX6_price 9 = .ok (.ifCond .ne 9, 3) := by decide +kernel
theorem dX6_price_12 : decode cX6_price 12 = .ok (.aload_n 0, 1) := by decide +kernel
theorem dX6_price_13 : decode cX6_price 13 = .ok (.iconst 1, 1) := by decide +kernel
theorem dX6_price_14 : decode cX6_price 14 = .ok (.invokevirtual 48, 3) := by decide +kernel
theorem dX6_price_17 : decode cX6_price 17 = .ok (.ireturn, 1) := by decide +kernel
theorem dX6_price_18 : decode cX6_price 18 = .ok (.iload_n 2, 1) := by decide +kernel
theorem dX6_price_19 : decode cX6_price 19 = .ok (.invokestatic 121, 3) := by decide +kernel
theorem dX6_price_22 : decode cX6_price 22 = .ok (.ifCond .eq 24, 3) := by decide +kernel
theorem dX6_price_25 : decode cX6_price 25 = .ok (.iload_n 3, 1) := by decide +kernel
theorem dX6_price_26 : decode cX6_price 26 = .ok (.iload 4, 2) := by decide +kernel
theorem dX6_price_28 : decode cX6_price 28 = .ok (.invokestatic 124, 3) := by decide +kernel
theorem dX6_price_31 : decode cX6_price 31 = .ok (.ifCond .eq 15, 3) := by decide +kernel
theorem dX6_price_34 : decode cX6_price 34 = .ok (.aload_n 0, 1) := by decide +kernel
theorem dX6_price_35 : decode cX6_price 35 = .ok (.iload_n 1, 1) := by decide +kernel
theorem dX6_price_36 : decode cX6_price 36 = .ok (.iload_n 2, 1) := by decide +kernel
theorem dX6_price_37 : decode cX6_price 37 = .ok (.iload_n 3, 1) := by decide +kernel
theorem dX6_price_38 : decode cX6_price 38 = .ok (.iload 4, 2) := by decide +kernel
theorem dX6_price_40 : decode cX6_price 40 = .ok (.invokevirtual 114, 3) := by decide +kernel
theorem dX6_price_43 : decode cX6_price 43 = .ok (.goto 8, 3) := by decide +kernel
theorem dX6_price_46 : decode cX6_price 46 = .ok (.aload_n 0, 1) := by decide +kernel
theorem dX6_price_47 : decode cX6_price 47 = .ok (.iconst 2, 1) := by decide +kernel
theorem dX6_price_48 : decode cX6_price 48 = .ok (.invokevirtual 48, 3) := by decide +kernel
theorem dX6_price_51 : decode cX6_price 51 = .ok (.ireturn, 1) := by decide +kernel
theorem dX6_freeFrom_0 : decode cX6_freeFrom 0 = .ok (.iload_n 2, 1) := by decide +kernel
theorem dX6_freeFrom_1 : decode cX6_freeFrom 1 = .ok (.istore 4, 2) := by decide +kernel
theorem dX6_freeFrom_3 : decode cX6_freeFrom 3 = .ok (.iload 4, 2) := by decide +kernel
theorem dX6_freeFrom_5 : decode cX6_freeFrom 5 = .ok (.bipush 84, 2) := by decide +kernel
theorem dX6_freeFrom_7 : decode cX6_freeFrom 7 = .ok (.if_icmp .ge 53, 3) := by decide +kernel
theorem dX6_freeFrom_10 : decode cX6_freeFrom 10 = .ok (.iconst 0, 1) := by decide +kernel
theorem dX6_freeFrom_11 : decode cX6_freeFrom 11 = .ok (.istore 5, 2) := by decide +kernel
theorem dX6_freeFrom_13 : decode cX6_freeFrom 13 = .ok (.iload 5, 2) := by decide +kernel
theorem dX6_freeFrom_15 : decode cX6_freeFrom 15 = .ok (.iload_n 3, 1) := by decide +kernel
theorem dX6_freeFrom_16 : decode cX6_freeFrom 16 = .ok (.iadd, 1) := by decide +kernel
theorem dX6_freeFrom_17 : decode cX6_freeFrom 17 = .ok (.bipush 24, 2) := by decide +kernel
theorem dX6_freeFrom_19 : decode cX6_freeFrom 19 = .ok (.if_icmp .gt 35, 3) := by decide +kernel
theorem dX6_freeFrom_22 : decode cX6_freeFrom 22 = .ok (.aload_n 0, 1) := by decide +kernel
theorem dX6_freeFrom_23 : decode cX6_freeFrom 23 = .ok (.iload_n 1, 1) := by decide +kernel
theorem dX6_freeFrom_24 : decode cX6_freeFrom 24 = .ok (.iload 4, 2) := by decide +kernel
theorem dX6_freeFrom_26 : decode cX6_freeFrom 26 = .ok (.iload 5, 2) := by decide +kernel
theorem dX6_freeFrom_28 : decode cX6_freeFrom 28 = .ok (.iload 5, 2) := by decide +kernel
theorem dX6_freeFrom_30 : decode cX6_freeFrom 30 = .ok (.iload_n 3, 1) := by decide +kernel
theorem dX6_freeFrom_31 : decode cX6_freeFrom 31 = .ok (.iadd, 1) := by decide +kernel
theorem dX6_freeFrom_32 : decode cX6_freeFrom 32 = .ok (.iconst 1, 1) := by decide +kernel
theorem dX6_freeFrom_33 : decode cX6_freeFrom 33 = .ok (.invokevirtual 130, 3) := by decide +kernel
theorem dX6_freeFrom_36 : decode cX6_freeFrom 36 = .ok (.ifCond .ne 12, 3) := by decide +kernel
theorem dX6_freeFrom_39 : decode cX6_freeFrom 39 = .ok (.bipush 24, 2) := by decide +kernel
theorem dX6_freeFrom_41 : decode cX6_freeFrom 41 = .ok (.iload 4, 2) := by decide +kernel
theorem dX6_freeFrom_43 : decode cX6_freeFrom 43 = .ok (.imul, 1) := by decide +kernel
theorem dX6_freeFrom_44 : decode cX6_freeFrom 44 = .ok (.iload 5, 2) := by decide +kernel
theorem dX6_freeFrom_46 : decode cX6_freeFrom 46 = .ok (.iadd, 1) := by decide +kernel
theorem dX6_freeFrom_47 : decode cX6_freeFrom 47 = .ok (.ireturn, 1) := by decide +kernel
theorem dX6_freeFrom_48 : decode cX6_freeFrom 48 = .ok (.iinc 5 1, 3) := by decide +kernel
theorem dX6_freeFrom_51 : decode cX6_freeFrom 51 = .ok (.goto (-38), 3) := by decide +kernel
theorem dX6_freeFrom_54 : decode cX6_freeFrom 54 = .ok (.iinc 4 1, 3) := by decide +kernel
theorem dX6_freeFrom_57 : decode cX6_freeFrom 57 = .ok (.goto (-54), 3) := by decide +kernel
theorem dX6_freeFrom_60 : decode cX6_freeFrom 60 = .ok (.iconst (-1), 1) := by decide +kernel
theorem dX6_freeFrom_61 : decode cX6_freeFrom 61 = .ok (.ireturn, 1) := by decide +kernel
theorem dX6_nextFree_0 : decode cX6_nextFree 0 = .ok (.aload_n 0, 1) := by decide +kernel
theorem dX6_nextFree_1 : decode cX6_nextFree 1 = .ok (.iconst 0, 1) := by decide +kernel
theorem dX6_nextFree_2 : decode cX6_nextFree 2 = .ok (.putfield 37, 3) := by decide +kernel
theorem dX6_nextFree_5 : decode cX6_nextFree 5 = .ok (.iload_n 1, 1) := by decide +kernel
theorem dX6_nextFree_6 : decode cX6_nextFree 6 = .ok (.invokestatic 117, 3) := by decide +kernel
theorem dX6_nextFree_9 : decode cX6_nextFree 9 = .ok (.ifCond .ne 9, 3) := by decide +kernel
theorem dX6_nextFree_12 : decode cX6_nextFree 12 = .ok (.aload_n 0, 1) := by decide +kernel
theorem dX6_nextFree_13 : decode cX6_nextFree 13 = .ok (.iconst 1, 1) := by decide +kernel
theorem dX6_nextFree_14 : decode cX6_nextFree 14 = .ok (.invokevirtual 48, 3) := by decide +kernel
theorem dX6_nextFree_17 : decode cX6_nextFree 17 = .ok (.ireturn, 1) := by decide +kernel
theorem dX6_nextFree_18 : decode cX6_nextFree 18 = .ok (.iload_n 2, 1) := by decide +kernel
theorem dX6_nextFree_19 : decode cX6_nextFree 19 = .ok (.invokestatic 121, 3) := by decide +kernel
theorem dX6_nextFree_22 : decode cX6_nextFree 22 = .ok (.ifCond .eq 23, 3) := by decide +kernel
theorem dX6_nextFree_25 : decode cX6_nextFree 25 = .ok (.iload_n 3, 1) := by decide +kernel
theorem dX6_nextFree_26 : decode cX6_nextFree 26 = .ok (.iconst 1, 1) := by decide +kernel
theorem dX6_nextFree_27 : decode cX6_nextFree 27 = .ok (.bipush 24, 2) := by decide +kernel
theorem dX6_nextFree_29 : decode cX6_nextFree 29 = .ok (.invokestatic 41, 3) := by decide +kernel
theorem dX6_nextFree_32 : decode cX6_nextFree 32 = .ok (.ifCond .eq 13, 3) := by decide +kernel
theorem dX6_nextFree_35 : decode cX6_nextFree 35 = .ok (.aload_n 0, 1) := by decide +kernel
theorem dX6_nextFree_36 : decode cX6_nextFree 36 = .ok (.iload_n 1, 1) := by decide +kernel
theorem dX6_nextFree_37 : decode cX6_nextFree 37 = .ok (.iload_n 2, 1) := by decide +kernel
theorem dX6_nextFree_38 : decode cX6_nextFree 38 = .ok (.iload_n 3, 1) := by decide +kernel
theorem dX6_nextFree_39 : decode cX6_nextFree 39 = .ok (.invokevirtual 219, 3) := by decide +kernel
theorem dX6_nextFree_42 : decode cX6_nextFree 42 = .ok (.goto 8, 3) := by decide +kernel
theorem dX6_nextFree_45 : decode cX6_nextFree 45 = .ok (.aload_n 0, 1) := by decide +kernel
theorem dX6_nextFree_46 : decode cX6_nextFree 46 = .ok (.iconst 2, 1) := by decide +kernel
theorem dX6_nextFree_47 : decode cX6_nextFree 47 = .ok (.invokevirtual 48, 3) := by decide +kernel
theorem dX6_nextFree_50 : decode cX6_nextFree 50 = .ok (.ireturn, 1) := by decide +kernel
theorem dX6_bestTenant_0 : decode cX6_bestTenant 0 = .ok (.iconst (-1), 1) := by decide +kernel
theorem dX6_bestTenant_1 : decode cX6_bestTenant 1 = .ok (.istore_n 1, 1) := by decide +kernel
theorem dX6_bestTenant_2 : decode cX6_bestTenant 2 = .ok (.iconst 0, 1) := by decide +kernel
theorem dX6_bestTenant_3 : decode cX6_bestTenant 3 = .ok (.istore_n 2, 1) := by decide +kernel
theorem dX6_bestTenant_4 : decode cX6_bestTenant 4 = .ok (.iconst 0, 1) := by decide +kernel
theorem dX6_bestTenant_5 : decode cX6_bestTenant 5 = .ok (.istore_n 3, 1) := by decide +kernel
theorem dX6_bestTenant_6 : decode cX6_bestTenant 6 = .ok (.iload_n 3, 1) := by decide +kernel
theorem dX6_bestTenant_7 : decode cX6_bestTenant 7 = .ok (.bipush 20, 2) := by decide +kernel
theorem dX6_bestTenant_9 : decode cX6_bestTenant 9 = .ok (.if_icmp .ge 42, 3) := by decide +kernel
theorem dX6_bestTenant_12 : decode cX6_bestTenant 12 = .ok (.aload_n 0, 1) := by decide +kernel
theorem dX6_bestTenant_13 : decode cX6_bestTenant 13 = .ok (.iload_n 3, 1) := by decide +kernel
theorem dX6_bestTenant_14 : decode cX6_bestTenant 14 = .ok (.iconst 2, 1) := by decide +kernel
theorem dX6_bestTenant_15 : decode cX6_bestTenant 15 = .ok (.invokevirtual 213, 3) := by decide +kernel
theorem dX6_bestTenant_18 : decode cX6_bestTenant 18 = .ok (.istore 4, 2) := by decide +kernel
theorem dX6_bestTenant_20 : decode cX6_bestTenant 20 = .ok (.iload 4, 2) := by decide +kernel
theorem dX6_bestTenant_22 : decode cX6_bestTenant 22 = .ok (.iload_n 2, 1) := by decide +kernel
theorem dX6_bestTenant_23 : decode cX6_bestTenant 23 = .ok (.if_icmp .le 7, 3) := by decide +kernel
theorem dX6_bestTenant_26 : decode cX6_bestTenant 26 = .ok (.iload_n 3, 1) := by decide +kernel
theorem dX6_bestTenant_27 : decode cX6_bestTenant 27 = .ok (.goto 4, 3) := by decide +kernel
theorem dX6_bestTenant_30 : decode cX6_bestTenant 30 = .ok (.iload_n 1, 1) := by decide +kernel
theorem dX6_bestTenant_31 : decode cX6_bestTenant 31 = .ok (.istore_n 1, 1) := by decide +kernel
theorem dX6_bestTenant_32 : decode cX6_bestTenant 32 = .ok (.iload 4, 2) := by decide +kernel
theorem dX6_bestTenant_34 : decode cX6_bestTenant 34 = .ok (.iload_n 2, 1) := by decide +kernel
theorem dX6_bestTenant_35 : decode cX6_bestTenant 35 = .ok (.if_icmp .le 8, 3) := by decide +kernel
theorem dX6_bestTenant_38 : decode cX6_bestTenant 38 = .ok (.iload 4, 2) := by decide +kernel
theorem dX6_bestTenant_40 : decode cX6_bestTenant 40 = .ok (.goto 4, 3) := by decide +kernel
theorem dX6_bestTenant_43 : decode cX6_bestTenant 43 = .ok (.iload_n 2, 1) := by decide +kernel
theorem dX6_bestTenant_44 : decode cX6_bestTenant 44 = .ok (.istore_n 2, 1) := by decide +kernel
theorem dX6_bestTenant_45 : decode cX6_bestTenant 45 = .ok (.iinc 3 1, 3) := by decide +kernel
theorem dX6_bestTenant_48 : decode cX6_bestTenant 48 = .ok (.goto (-42), 3) := by decide +kernel
theorem dX6_bestTenant_51 : decode cX6_bestTenant 51 = .ok (.iload_n 1, 1) := by decide +kernel
theorem dX6_bestTenant_52 : decode cX6_bestTenant 52 = .ok (.ireturn, 1) := by decide +kernel
theorem dX6_best_0 : decode cX6_best 0 = .ok (.aload_n 0, 1) := by decide +kernel
theorem dX6_best_1 : decode cX6_best 1 = .ok (.iconst 0, 1) := by decide +kernel
theorem dX6_best_2 : decode cX6_best 2 = .ok (.putfield 37, 3) := by decide +kernel
theorem dX6_best_5 : decode cX6_best 5 = .ok (.aload_n 0, 1) := by decide +kernel
theorem dX6_best_6 : decode cX6_best 6 = .ok (.invokevirtual 222, 3) := by decide +kernel
theorem dX6_best_9 : decode cX6_best 9 = .ok (.ireturn, 1) := by decide +kernel
theorem dX6_share_0 : decode cX6_share 0 = .ok (.iconst 0, 1) := by decide +kernel
theorem dX6_share_1 : decode cX6_share 1 = .ok (.istore_n 2, 1) := by decide +kernel
theorem dX6_share_2 : decode cX6_share 2 = .ok (.iconst 0, 1) := by decide +kernel
theorem dX6_share_3 : decode cX6_share 3 = .ok (.istore_n 3, 1) := by decide +kernel
theorem dX6_share_4 : decode cX6_share 4 = .ok (.iload_n 3, 1) := by decide +kernel
theorem dX6_share_5 : decode cX6_share 5 = .ok (.bipush 84, 2) := by decide +kernel
theorem dX6_share_7 : decode cX6_share 7 = .ok (.if_icmp .ge 19, 3) := by decide +kernel
theorem dX6_share_10 : decode cX6_share 10 = .ok (.iload_n 2, 1) := by decide +kernel
theorem dX6_share_11 : decode cX6_share 11 = .ok (.aload_n 0, 1) := by decide +kernel
theorem dX6_share_12 : decode cX6_share 12 = .ok (.iload_n 1, 1) := by decide +kernel
theorem dX6_share_13 : decode cX6_share 13 = .ok (.iload_n 3, 1) := by decide +kernel
theorem dX6_share_14 : decode cX6_share 14 = .ok (.iconst 1, 1) := by decide +kernel
theorem dX6_share_15 : decode cX6_share 15 = .ok (.invokevirtual 207, 3) := by decide +kernel
theorem dX6_share_18 : decode cX6_share 18 = .ok (.iadd, 1) := by decide +kernel
theorem dX6_share_19 : decode cX6_share 19 = .ok (.istore_n 2, 1) := by decide +kernel
theorem dX6_share_20 : decode cX6_share 20 = .ok (.iinc 3 1, 3) := by decide +kernel
theorem dX6_share_23 : decode cX6_share 23 = .ok (.goto (-19), 3) := by decide +kernel
theorem dX6_share_26 : decode cX6_share 26 = .ok (.iload_n 2, 1) := by decide +kernel
theorem dX6_share_27 : decode cX6_share 27 = .ok (.i2d, 1) := by decide +kernel
theorem dX6_share_28 : decode cX6_share 28 = .ok (.ldc2_w 225, 3) := by decide +kernel
theorem dX6_share_31 : decode cX6_share 31 = .ok (.ddiv, 1) := by decide +kernel
theorem dX6_share_32 : decode cX6_share 32 = .ok (.dreturn, 1) := by decide +kernel
theorem dX6_fullness_0 : decode cX6_fullness 0 = .ok (.aload_n 0, 1) := by decide +kernel
theorem dX6_fullness_1 : decode cX6_fullness 1 = .ok (.iconst 0, 1) := by decide +kernel
theorem dX6_fullness_2 : decode cX6_fullness 2 = .ok (.putfield 37, 3) := by decide +kernel
theorem dX6_fullness_5 : decode cX6_fullness 5 = .ok (.iload_n 1, 1) := by decide +kernel
theorem dX6_fullness_6 : decode cX6_fullness 6 = .ok (.invokestatic 117, 3) := by decide +kernel
theorem dX6_fullness_9 : decode cX6_fullness 9 = .ok (.ifCond .eq 11, 3) := by decide +kernel
theorem dX6_fullness_12 : decode cX6_fullness 12 = .ok (.aload_n 0, 1) := by decide +kernel
theorem dX6_fullness_13 : decode cX6_fullness 13 = .ok (.iload_n 1, 1) := by decide +kernel
theorem dX6_fullness_14 : decode cX6_fullness 14 = .ok (.invokevirtual 227, 3) := by decide +kernel
theorem dX6_fullness_17 : decode cX6_fullness 17 = .ok (.goto 9, 3) := by decide +kernel
theorem dX6_fullness_20 : decode cX6_fullness 20 = .ok (.aload_n 0, 1) := by decide +kernel
theorem dX6_fullness_21 : decode cX6_fullness 21 = .ok (.iconst 1, 1) := by decide +kernel
theorem dX6_fullness_22 : decode cX6_fullness 22 = .ok (.invokevirtual 48, 3) := by decide +kernel
theorem dX6_fullness_25 : decode cX6_fullness 25 = .ok (.i2d, 1) := by decide +kernel
theorem dX6_fullness_26 : decode cX6_fullness 26 = .ok (.dreturn, 1) := by decide +kernel
theorem dX6_mean_0 : decode cX6_mean 0 = .ok (.aload_n 0, 1) := by decide +kernel
theorem dX6_mean_1 : decode cX6_mean 1 = .ok (.iconst 3, 1) := by decide +kernel
theorem dX6_mean_2 : decode cX6_mean 2 = .ok (.invokevirtual 216, 3) := by decide +kernel
theorem dX6_mean_5 : decode cX6_mean 5 = .ok (.i2f, 1) := by decide +kernel
theorem dX6_mean_6 : decode cX6_mean 6 = .ok (.ldc 231, 2) := by decide +kernel
theorem dX6_mean_8 : decode cX6_mean 8 = .ok (.fdiv, 1) := by decide +kernel
theorem dX6_mean_9 : decode cX6_mean 9 = .ok (.freturn, 1) := by decide +kernel
theorem dX6_meanRent_0 : decode cX6_meanRent 0 = .ok (.aload_n 0, 1) := by decide +kernel
theorem dX6_meanRent_1 : decode cX6_meanRent 1 = .ok (.iconst 0, 1) := by decide +kernel
theorem dX6_meanRent_2 : decode cX6_meanRent 2 = .ok (.putfield 37, 3) := by decide +kernel
theorem dX6_meanRent_5 : decode cX6_meanRent 5 = .ok (.aload_n 0, 1) := by decide +kernel
theorem dX6_meanRent_6 : decode cX6_meanRent 6 = .ok (.invokevirtual 232, 3) := by decide +kernel
theorem dX6_meanRent_9 : decode cX6_meanRent 9 = .ok (.freturn, 1) := by decide +kernel
theorem dX6_mix_0 : decode cX6_mix 0 = .ok (.aload_n 0, 1) := by decide +kernel
theorem dX6_mix_1 : decode cX6_mix 1 = .ok (.ldc2_w 236, 3) := by decide +kernel
theorem dX6_mix_4 : decode cX6_mix 4 = .ok (.aload_n 0, 1) := by decide +kernel
theorem dX6_mix_5 : decode cX6_mix 5 = .ok (.getfield 238, 3) := by decide +kernel
theorem dX6_mix_8 : decode cX6_mix 8 = .ok (.lmul, 1) := by decide +kernel
theorem dX6_mix_9 : decode cX6_mix 9 = .ok (.lload_n 1, 1) := by decide +kernel
theorem dX6_mix_10 : decode cX6_mix 10 = .ok (.ladd, 1) := by decide +kernel
theorem dX6_mix_11 : decode cX6_mix 11 = .ok (.putfield 238, 3) := by decide +kernel
theorem dX6_mix_14 : decode cX6_mix 14 = .ok (.return_, 1) := by decide +kernel
theorem dX6_mixLets_0 : decode cX6_mixLets 0 = .ok (.iconst 0, 1) := by decide +kernel
theorem dX6_mixLets_1 : decode cX6_mixLets 1 = .ok (.istore_n 1, 1) := by decide +kernel
theorem dX6_mixLets_2 : decode cX6_mixLets 2 = .ok (.iload_n 1, 1) := by decide +kernel
theorem dX6_mixLets_3 : decode cX6_mixLets 3 = .ok (.bipush 11, 2) := by decide +kernel
theorem dX6_mixLets_5 : decode cX6_mixLets 5 = .ok (.aload_n 0, 1) := by decide +kernel
theorem dX6_mixLets_6 : decode cX6_mixLets 6 = .ok (.getfield 7, 3) := by decide +kernel
theorem dX6_mixLets_9 : decode cX6_mixLets 9 = .ok (.bipush 11, 2) := by decide +kernel
theorem dX6_mixLets_11 : decode cX6_mixLets 11 = .ok (.iaload, 1) := by decide +kernel
theorem dX6_mixLets_12 : decode cX6_mixLets 12 = .ok (.imul, 1) := by decide +kernel
theorem dX6_mixLets_13 : decode cX6_mixLets 13 = .ok (.if_icmp .ge 26, 3) := by decide +kernel
theorem dX6_mixLets_16 : decode cX6_mixLets 16 = .ok (.aload_n 0, 1) := by decide +kernel
theorem dX6_mixLets_17 : decode cX6_mixLets 17 = .ok (.aload_n 0, 1) := by decide +kernel
theorem dX6_mixLets_18 : decode cX6_mixLets 18 = .ok (.iload_n 1, 1) := by decide +kernel
theorem dX6_mixLets_19 : decode cX6_mixLets 19 = .ok (.bipush 11, 2) := by decide +kernel
theorem dX6_mixLets_21 : decode cX6_mixLets 21 = .ok (.idiv, 1) := by decide +kernel
theorem dX6_mixLets_22 : decode cX6_mixLets 22 = .ok (.iload_n 1, 1) := by decide +kernel
theorem dX6_mixLets_23 : decode cX6_mixLets 23 = .ok (.bipush 11, 2) := by decide +kernel
theorem dX6_mixLets_25 : decode cX6_mixLets 25 = .ok (.irem, 1) := by decide +kernel
theorem dX6_mixLets_26 : decode cX6_mixLets 26 = .ok (.invokevirtual 200, 3) := by decide +kernel
theorem dX6_mixLets_29 : decode cX6_mixLets 29 = .ok (.i2l, 1) := by decide +kernel
theorem dX6_mixLets_30 : decode cX6_mixLets 30 = .ok (.invokevirtual 242, 3) := by decide +kernel
theorem dX6_mixLets_33 : decode cX6_mixLets 33 = .ok (.iinc 1 1, 3) := by decide +kernel
theorem dX6_mixLets_36 : decode cX6_mixLets 36 = .ok (.goto (-34), 3) := by decide +kernel
theorem dX6_mixLets_39 : decode cX6_mixLets 39 = .ok (.iconst 0, 1) := by decide +kernel
theorem dX6_mixLets_40 : decode cX6_mixLets 40 = .ok (.istore_n 1, 1) := by decide +kernel
theorem dX6_mixLets_41 : decode cX6_mixLets 41 = .ok (.iload_n 1, 1) := by decide +kernel
theorem dX6_mixLets_42 : decode cX6_mixLets 42 = .ok (.bipush 7, 2) := by decide +kernel
theorem dX6_mixLets_44 : decode cX6_mixLets 44 = .ok (.aload_n 0, 1) := by decide +kernel
theorem dX6_mixLets_45 : decode cX6_mixLets 45 = .ok (.getfield 7, 3) := by decide +kernel
theorem dX6_mixLets_48 : decode cX6_mixLets 48 = .ok (.bipush 92, 2) := by decide +kernel
theorem dX6_mixLets_50 : decode cX6_mixLets 50 = .ok (.iaload, 1) := by decide +kernel
theorem dX6_mixLets_51 : decode cX6_mixLets 51 = .ok (.imul, 1) := by decide +kernel
theorem dX6_mixLets_52 : decode cX6_mixLets 52 = .ok (.if_icmp .ge 26, 3) := by decide +kernel
theorem dX6_mixLets_55 : decode cX6_mixLets 55 = .ok (.aload_n 0, 1) := by decide +kernel
theorem dX6_mixLets_56 : decode cX6_mixLets 56 = .ok (.aload_n 0, 1) := by decide +kernel
theorem dX6_mixLets_57 : decode cX6_mixLets 57 = .ok (.iload_n 1, 1) := by decide +kernel
theorem dX6_mixLets_58 : decode cX6_mixLets 58 = .ok (.bipush 7, 2) := by decide +kernel
theorem dX6_mixLets_60 : decode cX6_mixLets 60 = .ok (.idiv, 1) := by decide +kernel
theorem dX6_mixLets_61 : decode cX6_mixLets 61 = .ok (.iload_n 1, 1) := by decide +kernel
theorem dX6_mixLets_62 : decode cX6_mixLets 62 = .ok (.bipush 7, 2) := by decide +kernel
theorem dX6_mixLets_64 : decode cX6_mixLets 64 = .ok (.irem, 1) := by decide +kernel
theorem dX6_mixLets_65 : decode cX6_mixLets 65 = .ok (.invokevirtual 74, 3) := by decide +kernel
theorem dX6_mixLets_68 : decode cX6_mixLets 68 = .ok (.i2l, 1) := by decide +kernel
theorem dX6_mixLets_69 : decode cX6_mixLets 69 = .ok (.invokevirtual 242, 3) := by decide +kernel
theorem dX6_mixLets_72 : decode cX6_mixLets 72 = .ok (.iinc 1 1, 3) := by decide +kernel
theorem dX6_mixLets_75 : decode cX6_mixLets 75 = .ok (.goto (-34), 3) := by decide +kernel
theorem dX6_mixLets_78 : decode cX6_mixLets 78 = .ok (.iconst 0, 1) := by decide +kernel
theorem dX6_mixLets_79 : decode cX6_mixLets 79 = .ok (.istore_n 1, 1) := by decide +kernel
theorem dX6_mixLets_80 : decode cX6_mixLets 80 = .ok (.iload_n 1, 1) := by decide +kernel
theorem dX6_mixLets_81 : decode cX6_mixLets 81 = .ok (.bipush 60, 2) := by decide +kernel
theorem dX6_mixLets_83 : decode cX6_mixLets 83 = .ok (.if_icmp .ge 24, 3) := by decide +kernel
theorem dX6_mixLets_86 : decode cX6_mixLets 86 = .ok (.aload_n 0, 1) := by decide +kernel
theorem dX6_mixLets_87 : decode cX6_mixLets 87 = .ok (.aload_n 0, 1) := by decide +kernel
theorem dX6_mixLets_88 : decode cX6_mixLets 88 = .ok (.iload_n 1, 1) := by decide +kernel
theorem dX6_mixLets_89 : decode cX6_mixLets 89 = .ok (.iconst 3, 1) := by decide +kernel
theorem dX6_mixLets_90 : decode cX6_mixLets 90 = .ok (.idiv, 1) := by decide +kernel
theorem dX6_mixLets_91 : decode cX6_mixLets 91 = .ok (.iload_n 1, 1) := by decide +kernel
theorem dX6_mixLets_92 : decode cX6_mixLets 92 = .ok (.iconst 3, 1) := by decide +kernel
theorem dX6_mixLets_93 : decode cX6_mixLets 93 = .ok (.irem, 1) := by decide +kernel
theorem dX6_mixLets_94 : decode cX6_mixLets 94 = .ok (.invokevirtual 213, 3) := by decide +kernel
theorem dX6_mixLets_97 : decode cX6_mixLets 97 = .ok (.i2l, 1) := by decide +kernel
theorem dX6_mixLets_98 : decode cX6_mixLets 98 = .ok (.invokevirtual 242, 3) := by decide +kernel
theorem dX6_mixLets_101 : decode cX6_mixLets 101 = .ok (.iinc 1 1, 3) := by decide +kernel
theorem dX6_mixLets_104 : decode cX6_mixLets 104 = .ok (.goto (-24), 3) := by decide +kernel
theorem dX6_mixLets_107 : decode cX6_mixLets 107 = .ok (.return_, 1) := by decide +kernel
theorem dX6_mixHall_0 : decode cX6_mixHall 0 = .ok (.aload_n 0, 1) := by decide +kernel
theorem dX6_mixHall_1 : decode cX6_mixHall 1 = .ok (.aload_n 0, 1) := by decide +kernel
theorem dX6_mixHall_2 : decode cX6_mixHall 2 = .ok (.getfield 7, 3) := by decide +kernel
theorem dX6_mixHall_5 : decode cX6_mixHall 5 = .ok (.iconst 5, 1) := by decide +kernel
theorem dX6_mixHall_6 : decode cX6_mixHall 6 = .ok (.iload_n 1, 1) := by decide +kernel
theorem dX6_mixHall_7 : decode cX6_mixHall 7 = .ok (.iadd, 1) := by decide +kernel
theorem dX6_mixHall_8 : decode cX6_mixHall 8 = .ok (.iaload, 1) := by decide +kernel
theorem dX6_mixHall_9 : decode cX6_mixHall 9 = .ok (.i2l, 1) := by decide +kernel
theorem dX6_mixHall_10 : decode cX6_mixHall 10 = .ok (.invokevirtual 242, 3) := by decide +kernel
theorem dX6_mixHall_13 : decode cX6_mixHall 13 = .ok (.iconst 0, 1) := by decide +kernel
theorem dX6_mixHall_14 : decode cX6_mixHall 14 = .ok (.istore_n 2, 1) := by decide +kernel
theorem dX6_mixHall_15 : decode cX6_mixHall 15 = .ok (.iload_n 2, 1) := by decide +kernel
theorem dX6_mixHall_16 : decode cX6_mixHall 16 = .ok (.bipush 28, 2) := by decide +kernel
theorem dX6_mixHall_18 : decode cX6_mixHall 18 = .ok (.if_icmp .ge 25, 3) := by decide +kernel
theorem dX6_mixHall_21 : decode cX6_mixHall 21 = .ok (.aload_n 0, 1) := by decide +kernel
theorem dX6_mixHall_22 : decode cX6_mixHall 22 = .ok (.aload_n 0, 1) := by decide +kernel
theorem dX6_mixHall_23 : decode cX6_mixHall 23 = .ok (.iload_n 1, 1) := by decide +kernel
theorem dX6_mixHall_24 : decode cX6_mixHall 24 = .ok (.iload_n 2, 1) := by decide +kernel
theorem dX6_mixHall_25 : decode cX6_mixHall 25 = .ok (.iconst 4, 1) := by decide +kernel
theorem dX6_mixHall_26 : decode cX6_mixHall 26 = .ok (.idiv, 1) := by decide +kernel
theorem dX6_mixHall_27 : decode cX6_mixHall 27 = .ok (.iload_n 2, 1) := by decide +kernel
theorem dX6_mixHall_28 : decode cX6_mixHall 28 = .ok (.iconst 4, 1) := by decide +kernel
theorem dX6_mixHall_29 : decode cX6_mixHall 29 = .ok (.irem, 1) := by decide +kernel
theorem dX6_mixHall_30 : decode cX6_mixHall 30 = .ok (.invokevirtual 210, 3) := by decide +kernel
theorem dX6_mixHall_33 : decode cX6_mixHall 33 = .ok (.i2l, 1) := by decide +kernel
theorem dX6_mixHall_34 : decode cX6_mixHall 34 = .ok (.invokevirtual 242, 3) := by decide +kernel
theorem dX6_mixHall_37 : decode cX6_mixHall 37 = .ok (.iinc 2 1, 3) := by decide +kernel
theorem dX6_mixHall_40 : decode cX6_mixHall 40 = .ok (.goto (-25), 3) := by decide +kernel
theorem dX6_mixHall_43 : decode cX6_mixHall 43 = .ok (.aload_n 0, 1) := by decide +kernel
theorem dX6_mixHall_44 : decode cX6_mixHall 44 = .ok (.aload_n 0, 1) := by decide +kernel
theorem dX6_mixHall_45 : decode cX6_mixHall 45 = .ok (.iload_n 1, 1) := by decide +kernel
theorem dX6_mixHall_46 : decode cX6_mixHall 46 = .ok (.iconst 0, 1) := by decide +kernel
theorem dX6_mixHall_47 : decode cX6_mixHall 47 = .ok (.iconst 3, 1) := by decide +kernel
theorem dX6_mixHall_48 : decode cX6_mixHall 48 = .ok (.invokevirtual 219, 3) := by decide +kernel
theorem dX6_mixHall_51 : decode cX6_mixHall 51 = .ok (.i2l, 1) := by decide +kernel
theorem dX6_mixHall_52 : decode cX6_mixHall 52 = .ok (.invokevirtual 242, 3) := by decide +kernel
theorem dX6_mixHall_55 : decode cX6_mixHall 55 = .ok (.aload_n 0, 1) := by decide +kernel
theorem dX6_mixHall_56 : decode cX6_mixHall 56 = .ok (.aload_n 0, 1) := by decide +kernel
theorem dX6_mixHall_57 : decode cX6_mixHall 57 = .ok (.iload_n 1, 1) := by decide +kernel
theorem dX6_mixHall_58 : decode cX6_mixHall 58 = .ok (.iconst 5, 1) := by decide +kernel
theorem dX6_mixHall_59 : decode cX6_mixHall 59 = .ok (.bipush 18, 2) := by decide +kernel
theorem dX6_mixHall_61 : decode cX6_mixHall 61 = .ok (.bipush 20, 2) := by decide +kernel
theorem dX6_mixHall_63 : decode cX6_mixHall 63 = .ok (.iconst 5, 1) := by decide +kernel
theorem dX6_mixHall_64 : decode cX6_mixHall 64 = .ok (.invokevirtual 130, 3) := by decide +kernel
theorem dX6_mixHall_67 : decode cX6_mixHall 67 = .ok (.i2l, 1) := by decide +kernel
theorem dX6_mixHall_68 : decode cX6_mixHall 68 = .ok (.invokevirtual 242, 3) := by decide +kernel
theorem dX6_mixHall_71 : decode cX6_mixHall 71 = .ok (.aload_n 0, 1) := by decide +kernel
theorem dX6_mixHall_72 : decode cX6_mixHall 72 = .ok (.aload_n 0, 1) := by decide +kernel
theorem dX6_mixHall_73 : decode cX6_mixHall 73 = .ok (.iload_n 1, 1) := by decide +kernel
theorem dX6_mixHall_74 : decode cX6_mixHall 74 = .ok (.iconst 5, 1) := by decide +kernel
theorem dX6_mixHall_75 : decode cX6_mixHall 75 = .ok (.bipush 18, 2) := by decide +kernel
theorem dX6_mixHall_77 : decode cX6_mixHall 77 = .ok (.bipush 20, 2) := by decide +kernel
theorem dX6_mixHall_79 : decode cX6_mixHall 79 = .ok (.invokevirtual 114, 3) := by decide +kernel
theorem dX6_mixHall_82 : decode cX6_mixHall 82 = .ok (.i2l, 1) := by decide +kernel
theorem dX6_mixHall_83 : decode cX6_mixHall 83 = .ok (.invokevirtual 242, 3) := by decide +kernel
theorem dX6_mixHall_86 : decode cX6_mixHall 86 = .ok (.aload_n 0, 1) := by decide +kernel
theorem dX6_mixHall_87 : decode cX6_mixHall 87 = .ok (.aload_n 0, 1) := by decide +kernel
theorem dX6_mixHall_88 : decode cX6_mixHall 88 = .ok (.iload_n 1, 1) := by decide +kernel
theorem dX6_mixHall_89 : decode cX6_mixHall 89 = .ok (.invokevirtual 227, 3) := by decide +kernel
theorem dX6_mixHall_92 : decode cX6_mixHall 92 = .ok (.invokestatic 246, 3) := by decide +kernel
theorem dX6_mixHall_95 : decode cX6_mixHall 95 = .ok (.invokevirtual 242, 3) := by decide +kernel
theorem dX6_mixHall_98 : decode cX6_mixHall 98 = .ok (.return_, 1) := by decide +kernel
theorem dX6_digest_0 : decode cX6_digest 0 = .ok (.aload_n 0, 1) := by decide +kernel
theorem dX6_digest_1 : decode cX6_digest 1 = .ok (.iconst 0, 1) := by decide +kernel
theorem dX6_digest_2 : decode cX6_digest 2 = .ok (.putfield 37, 3) := by decide +kernel
theorem dX6_digest_5 : decode cX6_digest 5 = .ok (.aload_n 0, 1) := by decide +kernel
theorem dX6_digest_6 : decode cX6_digest 6 = .ok (.ldc2_w 252, 3) := by decide +kernel
theorem dX6_digest_9 : decode cX6_digest 9 = .ok (.putfield 238, 3) := by decide +kernel
theorem dX6_digest_12 : decode cX6_digest 12 = .ok (.iconst 0, 1) := by decide +kernel
theorem dX6_digest_13 : decode cX6_digest 13 = .ok (.istore_n 1, 1) := by decide +kernel
theorem dX6_digest_14 : decode cX6_digest 14 = .ok (.iload_n 1, 1) := by decide +kernel
theorem dX6_digest_15 : decode cX6_digest 15 = .ok (.bipush 13, 2) := by decide +kernel
theorem dX6_digest_17 : decode cX6_digest 17 = .ok (.if_icmp .ge 19, 3) := by decide +kernel
theorem dX6_digest_20 : decode cX6_digest 20 = .ok (.aload_n 0, 1) := by decide +kernel
theorem dX6_digest_21 : decode cX6_digest 21 = .ok (.aload_n 0, 1) := by decide +kernel
theorem dX6_digest_22 : decode cX6_digest 22 = .ok (.iload_n 1, 1) := by decide +kernel
theorem dX6_digest_23 : decode cX6_digest 23 = .ok (.invokevirtual 216, 3) := by decide +kernel
theorem dX6_digest_26 : decode cX6_digest 26 = .ok (.i2l, 1) := by decide +kernel
theorem dX6_digest_27 : decode cX6_digest 27 = .ok (.invokevirtual 242, 3) := by decide +kernel
theorem dX6_digest_30 : decode cX6_digest 30 = .ok (.iinc 1 1, 3) := by decide +kernel
theorem dX6_digest_33 : decode cX6_digest 33 = .ok (.goto (-19), 3) := by decide +kernel
theorem dX6_digest_36 : decode cX6_digest 36 = .ok (.aload_n 0, 1) := by decide +kernel
theorem dX6_digest_37 : decode cX6_digest 37 = .ok (.invokevirtual 254, 3) := by decide +kernel
theorem dX6_digest_40 : decode cX6_digest 40 = .ok (.iconst 0, 1) := by decide +kernel
theorem dX6_digest_41 : decode cX6_digest 41 = .ok (.istore_n 1, 1) := by decide +kernel
theorem dX6_digest_42 : decode cX6_digest 42 = .ok (.iload_n 1, 1) := by decide +kernel
theorem dX6_digest_43 : decode cX6_digest 43 = .ok (.iconst 3, 1) := by decide +kernel
theorem dX6_digest_44 : decode cX6_digest 44 = .ok (.if_icmp .ge 14, 3) := by decide +kernel
theorem dX6_digest_47 : decode cX6_digest 47 = .ok (.aload_n 0, 1) := by decide +kernel
theorem dX6_digest_48 : decode cX6_digest 48 = .ok (.iload_n 1, 1) := by decide +kernel
theorem dX6_digest_49 : decode cX6_digest 49 = .ok (.invokevirtual 257, 3) := by decide +kernel
theorem dX6_digest_52 : decode cX6_digest 52 = .ok (.iinc 1 1, 3) := by decide +kernel
theorem dX6_digest_55 : decode cX6_digest 55 = .ok (.goto (-13), 3) := by decide +kernel
theorem dX6_digest_58 : decode cX6_digest 58 = .ok (.aload_n 0, 1) := by decide +kernel
theorem dX6_digest_59 : decode cX6_digest 59 = .ok (.aload_n 0, 1) := by decide +kernel
theorem dX6_digest_60 : decode cX6_digest 60 = .ok (.invokevirtual 222, 3) := by decide +kernel
theorem dX6_digest_63 : decode cX6_digest 63 = .ok (.i2l, 1) := by decide +kernel
theorem dX6_digest_64 : decode cX6_digest 64 = .ok (.invokevirtual 242, 3) := by decide +kernel
theorem dX6_digest_67 : decode cX6_digest 67 = .ok (.aload_n 0, 1) := by decide +kernel
theorem dX6_digest_68 : decode cX6_digest 68 = .ok (.aload_n 0, 1) := by decide +kernel
theorem dX6_digest_69 : decode cX6_digest 69 = .ok (.invokevirtual 232, 3) := by decide +kernel
theorem dX6_digest_72 : decode cX6_digest 72 = .ok (.invokestatic 260, 3) := by decide +kernel
theorem dX6_digest_75 : decode cX6_digest 75 = .ok (.i2l, 1) := by decide +kernel
theorem dX6_digest_76 : decode cX6_digest 76 = .ok (.invokevirtual 242, 3) := by decide +kernel
theorem dX6_digest_79 : decode cX6_digest 79 = .ok (.aload_n 0, 1) := by decide +kernel
theorem dX6_digest_80 : decode cX6_digest 80 = .ok (.aload_n 0, 1) := by decide +kernel
theorem dX6_digest_81 : decode cX6_digest 81 = .ok (.getfield 170, 3) := by decide +kernel
theorem dX6_digest_84 : decode cX6_digest 84 = .ok (.i2l, 1) := by decide +kernel
theorem dX6_digest_85 : decode cX6_digest 85 = .ok (.invokevirtual 242, 3) := by decide +kernel
theorem dX6_digest_88 : decode cX6_digest 88 = .ok (.iconst 0, 1) := by decide +kernel
theorem dX6_digest_89 : decode cX6_digest 89 = .ok (.istore_n 1, 1) := by decide +kernel
theorem dX6_digest_90 : decode cX6_digest 90 = .ok (.iload_n 1, 1) := by decide +kernel
theorem dX6_digest_91 : decode cX6_digest 91 = .ok (.aload_n 0, 1) := by decide +kernel
theorem dX6_digest_92 : decode cX6_digest 92 = .ok (.getfield 170, 3) := by decide +kernel
theorem dX6_digest_95 : decode cX6_digest 95 = .ok (.if_icmp .ge 20, 3) := by decide +kernel
theorem dX6_digest_98 : decode cX6_digest 98 = .ok (.aload_n 0, 1) := by decide +kernel
theorem dX6_digest_99 : decode cX6_digest 99 = .ok (.aload_n 0, 1) := by decide +kernel
theorem dX6_digest_100 : decode cX6_digest 100 = .ok (.getfield 31, 3) := by decide +kernel
theorem dX6_digest_103 : decode cX6_digest 103 = .ok (.iload_n 1, 1) := by decide +kernel
theorem dX6_digest_104 : decode cX6_digest 104 = .ok (.iaload, 1) := by decide +kernel
theorem dX6_digest_105 : decode cX6_digest 105 = .ok (.i2l, 1) := by decide +kernel
theorem dX6_digest_106 : decode cX6_digest 106 = .ok (.invokevirtual 242, 3) := by decide +kernel
theorem dX6_digest_109 : decode cX6_digest 109 = .ok (.iinc 1 1, 3) := by decide +kernel
theorem dX6_digest_112 : decode cX6_digest 112 = .ok (.goto (-22), 3) := by decide +kernel
theorem dX6_digest_115 : decode cX6_digest 115 = .ok (.aload_n 0, 1) := by decide +kernel
theorem dX6_digest_116 : decode cX6_digest 116 = .ok (.getfield 238, 3) := by decide +kernel
theorem dX6_digest_119 : decode cX6_digest 119 = .ok (.lreturn, 1) := by decide +kernel
