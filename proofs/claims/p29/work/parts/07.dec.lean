theorem dL_cell_0 : decode cL_cell 0 = .ok (.iload_n 1, 1) := by decide +kernel
theorem dL_cell_1 : decode cL_cell 1 = .ok (.aload_n 0, 1) := by decide +kernel
theorem dL_cell_2 : decode cL_cell 2 = .ok (.arraylength, 1) := by decide +kernel
theorem dL_cell_3 : decode cL_cell 3 = .ok (.if_icmp .ge 9, 3) := by decide +kernel
theorem dL_cell_6 : decode cL_cell 6 = .ok (.aload_n 0, 1) := by decide +kernel
theorem dL_cell_7 : decode cL_cell 7 = .ok (.iload_n 1, 1) := by decide +kernel
theorem dL_cell_8 : decode cL_cell 8 = .ok (.iaload, 1) := by decide +kernel
theorem dL_cell_9 : decode cL_cell 9 = .ok (.goto 9, 3) := by decide +kernel
theorem dL_cell_12 : decode cL_cell 12 = .ok (.ldc 7, 2) := by decide +kernel
theorem dL_cell_14 : decode cL_cell 14 = .ok (.iload_n 1, 1) := by decide +kernel
theorem dL_cell_15 : decode cL_cell 15 = .ok (.iconst 1, 1) := by decide +kernel
theorem dL_cell_16 : decode cL_cell 16 = .ok (.iadd, 1) := by decide +kernel
theorem dL_cell_17 : decode cL_cell 17 = .ok (.imul, 1) := by decide +kernel
theorem dL_cell_18 : decode cL_cell 18 = .ok (.ireturn, 1) := by decide +kernel
theorem dL_low_0 : decode cL_low 0 = .ok (.iload_n 0, 1) := by decide +kernel
theorem dL_low_1 : decode cL_low 1 = .ok (.ldc 8, 2) := by decide +kernel
theorem dL_low_3 : decode cL_low 3 = .ok (.iand, 1) := by decide +kernel
theorem dL_low_4 : decode cL_low 4 = .ok (.iload_n 1, 1) := by decide +kernel
theorem dL_low_5 : decode cL_low 5 = .ok (.irem, 1) := by decide +kernel
theorem dL_low_6 : decode cL_low 6 = .ok (.ireturn, 1) := by decide +kernel
theorem dL_bits_0 : decode cL_bits 0 = .ok (.iconst 1, 1) := by decide +kernel
theorem dL_bits_1 : decode cL_bits 1 = .ok (.iload_n 1, 1) := by decide +kernel
theorem dL_bits_2 : decode cL_bits 2 = .ok (.ishl, 1) := by decide +kernel
theorem dL_bits_3 : decode cL_bits 3 = .ok (.iconst 1, 1) := by decide +kernel
theorem dL_bits_4 : decode cL_bits 4 = .ok (.iload_n 0, 1) := by decide +kernel
theorem dL_bits_5 : decode cL_bits 5 = .ok (.ishl, 1) := by decide +kernel
theorem dL_bits_6 : decode cL_bits 6 = .ok (.isub, 1) := by decide +kernel
theorem dL_bits_7 : decode cL_bits 7 = .ok (.ireturn, 1) := by decide +kernel
theorem dL_stands_0 : decode cL_stands 0 = .ok (.aload_n 0, 1) := by decide +kernel
theorem dL_stands_1 : decode cL_stands 1 = .ok (.bipush 11, 2) := by decide +kernel
theorem dL_stands_3 : decode cL_stands 3 = .ok (.iload_n 1, 1) := by decide +kernel
theorem dL_stands_4 : decode cL_stands 4 = .ok (.imul, 1) := by decide +kernel
theorem dL_stands_5 : decode cL_stands 5 = .ok (.iconst 1, 1) := by decide +kernel
theorem dL_stands_6 : decode cL_stands 6 = .ok (.iadd, 1) := by decide +kernel
theorem dL_stands_7 : decode cL_stands 7 = .ok (.iaload, 1) := by decide +kernel
theorem dL_stands_8 : decode cL_stands 8 = .ok (.iload_n 2, 1) := by decide +kernel
theorem dL_stands_9 : decode cL_stands 9 = .ok (.bipush 7, 2) := by decide +kernel
theorem dL_stands_11 : decode cL_stands 11 = .ok (.irem, 1) := by decide +kernel
theorem dL_stands_12 : decode cL_stands 12 = .ok (.if_icmp .ne 27, 3) := by decide +kernel
theorem dL_stands_15 : decode cL_stands 15 = .ok (.aload_n 0, 1) := by decide +kernel
theorem dL_stands_16 : decode cL_stands 16 = .ok (.bipush 11, 2) := by decide +kernel
theorem dL_stands_18 : decode cL_stands 18 = .ok (.iload_n 1, 1) := by decide +kernel
theorem dL_stands_19 : decode cL_stands 19 = .ok (.imul, 1) := by decide +kernel
theorem dL_stands_20 : decode cL_stands 20 = .ok (.bipush 9, 2) := by decide +kernel
theorem dL_stands_22 : decode cL_stands 22 = .ok (.iadd, 1) := by decide +kernel
theorem dL_stands_23 : decode cL_stands 23 = .ok (.iaload, 1) := by decide +kernel
theorem dL_stands_24 : decode cL_stands 24 = .ok (.iload_n 2, 1) := by decide +kernel
theorem dL_stands_25 : decode cL_stands 25 = .ok (.bipush 7, 2) := by decide +kernel
theorem dL_stands_27 : decode cL_stands 27 = .ok (.idiv, 1) := by decide +kernel
theorem dL_stands_28 : decode cL_stands 28 = .ok (.ishr, 1) := by decide +kernel
theorem dL_stands_29 : decode cL_stands 29 = .ok (.iconst 1, 1) := by decide +kernel
theorem dL_stands_30 : decode cL_stands 30 = .ok (.iand, 1) := by decide +kernel
theorem dL_stands_31 : decode cL_stands 31 = .ok (.iconst 1, 1) := by decide +kernel
theorem dL_stands_32 : decode cL_stands 32 = .ok (.if_icmp .ne 7, 3) := by decide +kernel
theorem dL_stands_35 : decode cL_stands 35 = .ok (.iconst 1, 1) := by decide +kernel
theorem dL_stands_36 : decode cL_stands 36 = .ok (.goto 4, 3) := by decide +kernel
theorem dL_stands_39 : decode cL_stands 39 = .ok (.iconst 0, 1) := by decide +kernel
theorem dL_stands_40 : decode cL_stands 40 = .ok (.ireturn, 1) := by decide +kernel
theorem dL_clash_0 : decode cL_clash 0 = .ok (.iload_n 0, 1) := by decide +kernel
theorem dL_clash_1 : decode cL_clash 1 = .ok (.iload_n 2, 1) := by decide +kernel
theorem dL_clash_2 : decode cL_clash 2 = .ok (.if_icmp .ge 19, 3) := by decide +kernel
theorem dL_clash_5 : decode cL_clash 5 = .ok (.iload_n 1, 1) := by decide +kernel
theorem dL_clash_6 : decode cL_clash 6 = .ok (.iload 4, 2) := by decide +kernel
theorem dL_clash_8 : decode cL_clash 8 = .ok (.iadd, 1) := by decide +kernel
theorem dL_clash_9 : decode cL_clash 9 = .ok (.iload_n 2, 1) := by decide +kernel
theorem dL_clash_10 : decode cL_clash 10 = .ok (.if_icmp .le 7, 3) := by decide +kernel
theorem dL_clash_13 : decode cL_clash 13 = .ok (.iconst 1, 1) := by decide +kernel
theorem dL_clash_14 : decode cL_clash 14 = .ok (.goto 20, 3) := by decide +kernel
theorem dL_clash_17 : decode cL_clash 17 = .ok (.iconst 0, 1) := by decide +kernel
theorem dL_clash_18 : decode cL_clash 18 = .ok (.goto 16, 3) := by decide +kernel
theorem dL_clash_21 : decode cL_clash 21 = .ok (.iload_n 3, 1) := by decide +kernel
theorem dL_clash_22 : decode cL_clash 22 = .ok (.iload 4, 2) := by decide +kernel
theorem dL_clash_24 : decode cL_clash 24 = .ok (.iadd, 1) := by decide +kernel
theorem dL_clash_25 : decode cL_clash 25 = .ok (.iload_n 0, 1) := by decide +kernel
theorem dL_clash_26 : decode cL_clash 26 = .ok (.if_icmp .le 7, 3) := by decide +kernel
theorem dL_clash_29 : decode cL_clash 29 = .ok (.iconst 1, 1) := by decide +kernel
theorem dL_clash_30 : decode cL_clash 30 = .ok (.goto 4, 3) := by decide +kernel
theorem dL_clash_33 : decode cL_clash 33 = .ok (.iconst 0, 1) := by decide +kernel
theorem dL_clash_34 : decode cL_clash 34 = .ok (.ireturn, 1) := by decide +kernel
theorem dL_put_0 : decode cL_put 0 = .ok (.sipush 10000, 3) := by decide +kernel
theorem dL_put_3 : decode cL_put 3 = .ok (.iload 4, 2) := by decide +kernel
theorem dL_put_5 : decode cL_put 5 = .ok (.imul, 1) := by decide +kernel
theorem dL_put_6 : decode cL_put 6 = .ok (.sipush 1000, 3) := by decide +kernel
theorem dL_put_9 : decode cL_put 9 = .ok (.iload_n 2, 1) := by decide +kernel
theorem dL_put_10 : decode cL_put 10 = .ok (.imul, 1) := by decide +kernel
theorem dL_put_11 : decode cL_put 11 = .ok (.iadd, 1) := by decide +kernel
theorem dL_put_12 : decode cL_put 12 = .ok (.iload_n 3, 1) := by decide +kernel
theorem dL_put_13 : decode cL_put 13 = .ok (.iadd, 1) := by decide +kernel
theorem dL_put_14 : decode cL_put 14 = .ok (.istore 5, 2) := by decide +kernel
theorem dL_put_16 : decode cL_put 16 = .ok (.iload_n 1, 1) := by decide +kernel
theorem dL_put_17 : decode cL_put 17 = .ok (.istore 6, 2) := by decide +kernel
theorem dL_put_19 : decode cL_put 19 = .ok (.iload 6, 2) := by decide +kernel
theorem dL_put_21 : decode cL_put 21 = .ok (.ifCond .le 30, 3) := by decide +kernel
theorem dL_put_24 : decode cL_put 24 = .ok (.aload_n 0, 1) := by decide +kernel
theorem dL_put_25 : decode cL_put 25 = .ok (.iload 6, 2) := by decide +kernel
theorem dL_put_27 : decode cL_put 27 = .ok (.iconst 1, 1) := by decide +kernel
theorem dL_put_28 : decode cL_put 28 = .ok (.isub, 1) := by decide +kernel
theorem dL_put_29 : decode cL_put 29 = .ok (.iaload, 1) := by decide +kernel
theorem dL_put_30 : decode cL_put 30 = .ok (.iload 5, 2) := by decide +kernel
theorem dL_put_32 : decode cL_put 32 = .ok (.if_icmp .le 19, 3) := by decide +kernel
theorem dL_put_35 : decode cL_put 35 = .ok (.aload_n 0, 1) := by decide +kernel
theorem dL_put_36 : decode cL_put 36 = .ok (.iload 6, 2) := by decide +kernel
theorem dL_put_38 : decode cL_put 38 = .ok (.aload_n 0, 1) := by decide +kernel
theorem dL_put_39 : decode cL_put 39 = .ok (.iload 6, 2) := by decide +kernel
theorem dL_put_41 : decode cL_put 41 = .ok (.iconst 1, 1) := by decide +kernel
theorem dL_put_42 : decode cL_put 42 = .ok (.isub, 1) := by decide +kernel
theorem dL_put_43 : decode cL_put 43 = .ok (.iaload, 1) := by decide +kernel
theorem dL_put_44 : decode cL_put 44 = .ok (.iastore, 1) := by decide +kernel
theorem dL_put_45 : decode cL_put 45 = .ok (.iinc 6 (-1), 3) := by decide +kernel
theorem dL_put_48 : decode cL_put 48 = .ok (.goto (-29), 3) := by decide +kernel
theorem dL_put_51 : decode cL_put 51 = .ok (.aload_n 0, 1) := by decide +kernel
theorem dL_put_52 : decode cL_put 52 = .ok (.iload 6, 2) := by decide +kernel
theorem dL_put_54 : decode cL_put 54 = .ok (.iload 5, 2) := by decide +kernel
theorem dL_put_56 : decode cL_put 56 = .ok (.iastore, 1) := by decide +kernel
theorem dL_put_57 : decode cL_put 57 = .ok (.iload_n 1, 1) := by decide +kernel
theorem dL_put_58 : decode cL_put 58 = .ok (.iconst 1, 1) := by decide +kernel
theorem dL_put_59 : decode cL_put 59 = .ok (.iadd, 1) := by decide +kernel
theorem dL_put_60 : decode cL_put 60 = .ok (.ireturn, 1) := by decide +kernel
theorem dL_isCleaned_0 : decode cL_isCleaned 0 = .ok (.iconst 1, 1) := by decide +kernel
theorem dL_isCleaned_1 : decode cL_isCleaned 1 = .ok (.istore_n 3, 1) := by decide +kernel
theorem dL_isCleaned_2 : decode cL_isCleaned 2 = .ok (.iconst 0, 1) := by decide +kernel
theorem dL_isCleaned_3 : decode cL_isCleaned 3 = .ok (.istore 4, 2) := by decide +kernel
theorem dL_isCleaned_5 : decode cL_isCleaned 5 = .ok (.iconst 0, 1) := by decide +kernel
theorem dL_isCleaned_6 : decode cL_isCleaned 6 = .ok (.istore 5, 2) := by decide +kernel
theorem dL_isCleaned_8 : decode cL_isCleaned 8 = .ok (.iload 5, 2) := by decide +kernel
theorem dL_isCleaned_10 : decode cL_isCleaned 10 = .ok (.iload_n 1, 1) := by decide +kernel
theorem dL_isCleaned_11 : decode cL_isCleaned 11 = .ok (.if_icmp .ge 111, 3) := by decide +kernel
theorem dL_isCleaned_14 : decode cL_isCleaned 14 = .ok (.aload_n 0, 1) := by decide +kernel
theorem dL_isCleaned_15 : decode cL_isCleaned 15 = .ok (.iload 5, 2) := by decide +kernel
theorem dL_isCleaned_17 : decode cL_isCleaned 17 = .ok (.iaload, 1) := by decide +kernel
theorem dL_isCleaned_18 : decode cL_isCleaned 18 = .ok (.sipush 10000, 3) := by decide +kernel
theorem dL_isCleaned_21 : decode cL_isCleaned 21 = .ok (.idiv, 1) := by decide +kernel
theorem dL_isCleaned_22 : decode cL_isCleaned 22 = .ok (.istore 6, 2) := by decide +kernel
theorem dL_isCleaned_24 : decode cL_isCleaned 24 = .ok (.iload 6, 2) := by decide +kernel
theorem dL_isCleaned_26 : decode cL_isCleaned 26 = .ok (.iload 4, 2) := by decide +kernel
theorem dL_isCleaned_28 : decode cL_isCleaned 28 = .ok (.if_icmp .le 8, 3) := by decide +kernel
theorem dL_isCleaned_31 : decode cL_isCleaned 31 = .ok (.iload 6, 2) := by decide +kernel
theorem dL_isCleaned_33 : decode cL_isCleaned 33 = .ok (.goto 5, 3) := by decide +kernel
theorem dL_isCleaned_36 : decode cL_isCleaned 36 = .ok (.iload 4, 2) := by decide +kernel
theorem dL_isCleaned_38 : decode cL_isCleaned 38 = .ok (.istore 4, 2) := by decide +kernel
theorem dL_isCleaned_40 : decode cL_isCleaned 40 = .ok (.iload 4, 2) := by decide +kernel
theorem dL_isCleaned_42 : decode cL_isCleaned 42 = .ok (.iload_n 2, 1) := by decide +kernel
theorem dL_isCleaned_43 : decode cL_isCleaned 43 = .ok (.iadd, 1) := by decide +kernel
theorem dL_isCleaned_44 : decode cL_isCleaned 44 = .ok (.istore 4, 2) := by decide +kernel
theorem dL_isCleaned_46 : decode cL_isCleaned 46 = .ok (.aload_n 0, 1) := by decide +kernel
theorem dL_isCleaned_47 : decode cL_isCleaned 47 = .ok (.iload 5, 2) := by decide +kernel
theorem dL_isCleaned_49 : decode cL_isCleaned 49 = .ok (.iaload, 1) := by decide +kernel
theorem dL_isCleaned_50 : decode cL_isCleaned 50 = .ok (.sipush 1000, 3) := by decide +kernel
theorem dL_isCleaned_53 : decode cL_isCleaned 53 = .ok (.idiv, 1) := by decide +kernel
theorem dL_isCleaned_54 : decode cL_isCleaned 54 = .ok (.bipush 10, 2) := by decide +kernel
theorem dL_isCleaned_56 : decode cL_isCleaned 56 = .ok (.irem, 1) := by decide +kernel
theorem dL_isCleaned_57 : decode cL_isCleaned 57 = .ok (.istore 7, 2) := by decide +kernel
theorem dL_isCleaned_59 : decode cL_isCleaned 59 = .ok (.iload 5, 2) := by decide +kernel
theorem dL_isCleaned_61 : decode cL_isCleaned 61 = .ok (.iconst 1, 1) := by decide +kernel
theorem dL_isCleaned_62 : decode cL_isCleaned 62 = .ok (.iadd, 1) := by decide +kernel
theorem dL_isCleaned_63 : decode cL_isCleaned 63 = .ok (.istore 8, 2) := by decide +kernel
theorem dL_isCleaned_65 : decode cL_isCleaned 65 = .ok (.iload 8, 2) := by decide +kernel
theorem dL_isCleaned_67 : decode cL_isCleaned 67 = .ok (.iload_n 1, 1) := by decide +kernel
theorem dL_isCleaned_68 : decode cL_isCleaned 68 = .ok (.if_icmp .ge 48, 3) := by decide +kernel
theorem dL_isCleaned_71 : decode cL_isCleaned 71 = .ok (.iload_n 3, 1) := by decide +kernel
theorem dL_isCleaned_72 : decode cL_isCleaned 72 = .ok (.ifCond .eq 36, 3) := by decide +kernel
theorem dL_isCleaned_75 : decode cL_isCleaned 75 = .ok (.aload_n 0, 1) := by decide +kernel
theorem dL_isCleaned_76 : decode cL_isCleaned 76 = .ok (.iload 8, 2) := by decide +kernel
theorem dL_isCleaned_78 : decode cL_isCleaned 78 = .ok (.iaload, 1) := by decide +kernel
theorem dL_isCleaned_79 : decode cL_isCleaned 79 = .ok (.sipush 1000, 3) := by decide +kernel
theorem dL_isCleaned_82 : decode cL_isCleaned 82 = .ok (.idiv, 1) := by decide +kernel
theorem dL_isCleaned_83 : decode cL_isCleaned 83 = .ok (.bipush 10, 2) := by decide +kernel
theorem dL_isCleaned_85 : decode cL_isCleaned 85 = .ok (.irem, 1) := by decide +kernel
theorem dL_isCleaned_86 : decode cL_isCleaned 86 = .ok (.iload 7, 2) := by decide +kernel
theorem dL_isCleaned_88 : decode cL_isCleaned 88 = .ok (.if_icmp .ne 16, 3) := by decide +kernel
theorem dL_isCleaned_91 : decode cL_isCleaned 91 = .ok (.aload_n 0, 1) := by decide +kernel
theorem dL_isCleaned_92 : decode cL_isCleaned 92 = .ok (.iload 8, 2) := by decide +kernel
theorem dL_isCleaned_94 : decode cL_isCleaned 94 = .ok (.iaload, 1) := by decide +kernel
theorem dL_isCleaned_95 : decode cL_isCleaned 95 = .ok (.sipush 1000, 3) := by decide +kernel
theorem dL_isCleaned_98 : decode cL_isCleaned 98 = .ok (.irem, 1) := by decide +kernel
theorem dL_isCleaned_99 : decode cL_isCleaned 99 = .ok (.iload 4, 2) := by decide +kernel
theorem dL_isCleaned_101 : decode cL_isCleaned 101 = .ok (.if_icmp .lt 7, 3) := by decide +kernel
theorem dL_isCleaned_104 : decode cL_isCleaned 104 = .ok (.iconst 1, 1) := by decide +kernel
theorem dL_isCleaned_105 : decode cL_isCleaned 105 = .ok (.goto 4, 3) := by decide +kernel
theorem dL_isCleaned_108 : decode cL_isCleaned 108 = .ok (.iconst 0, 1) := by decide +kernel
theorem dL_isCleaned_109 : decode cL_isCleaned 109 = .ok (.istore_n 3, 1) := by decide +kernel
theorem dL_isCleaned_110 : decode cL_isCleaned 110 = .ok (.iinc 8 1, 3) := by decide +kernel
theorem dL_isCleaned_113 : decode cL_isCleaned 113 = .ok (.goto (-48), 3) := by decide +kernel
theorem dL_isCleaned_116 : decode cL_isCleaned 116 = .ok (.iinc 5 1, 3) := by decide +kernel
theorem dL_isCleaned_119 : decode cL_isCleaned 119 = .ok (.goto (-111), 3) := by decide +kernel
theorem dL_isCleaned_122 : decode cL_isCleaned 122 = .ok (.iload_n 3, 1) := by decide +kernel
theorem dL_isCleaned_123 : decode cL_isCleaned 123 = .ok (.ireturn, 1) := by decide +kernel
theorem dL_reason_0 : decode cL_reason 0 = .ok (.bipush 24, 2) := by decide +kernel
theorem dL_reason_2 : decode cL_reason 2 = .ok (.newarray .int, 2) := by decide +kernel
theorem dL_reason_4 : decode cL_reason 4 = .ok (.astore 8, 2) := by decide +kernel
theorem dL_reason_6 : decode cL_reason 6 = .ok (.aload 8, 2) := by decide +kernel
theorem dL_reason_8 : decode cL_reason 8 = .ok (.iconst 0, 1) := by decide +kernel
theorem dL_reason_9 : decode cL_reason 9 = .ok (.iload_n 3, 1) := by decide +kernel
theorem dL_reason_10 : decode cL_reason 10 = .ok (.iload 5, 2) := by decide +kernel
theorem dL_reason_12 : decode cL_reason 12 = .ok (.iload 6, 2) := by decide +kernel
theorem dL_reason_14 : decode cL_reason 14 = .ok (.invokestatic 9, 3) := by decide +kernel
theorem dL_reason_17 : decode cL_reason 17 = .ok (.istore 9, 2) := by decide +kernel
theorem dL_reason_19 : decode cL_reason 19 = .ok (.iconst 0, 1) := by decide +kernel
theorem dL_reason_20 : decode cL_reason 20 = .ok (.istore 10, 2) := by decide +kernel
theorem dL_reason_22 : decode cL_reason 22 = .ok (.iconst 0, 1) := by decide +kernel
theorem dL_reason_23 : decode cL_reason 23 = .ok (.istore 11, 2) := by decide +kernel
theorem dL_reason_25 : decode cL_reason 25 = .ok (.iload 11, 2) := by decide +kernel
theorem dL_reason_27 : decode cL_reason 27 = .ok (.aload_n 0, 1) := by decide +kernel
theorem dL_reason_28 : decode cL_reason 28 = .ok (.bipush 11, 2) := by decide +kernel
theorem dL_reason_30 : decode cL_reason 30 = .ok (.iaload, 1) := by decide +kernel
theorem dL_reason_31 : decode cL_reason 31 = .ok (.if_icmp .ge 130, 3) := by decide +kernel
theorem dL_reason_34 : decode cL_reason 34 = .ok (.bipush 11, 2) := by decide +kernel
theorem dL_reason_36 : decode cL_reason 36 = .ok (.iload 11, 2) := by decide +kernel
theorem dL_reason_38 : decode cL_reason 38 = .ok (.imul, 1) := by decide +kernel
theorem dL_reason_39 : decode cL_reason 39 = .ok (.istore 12, 2) := by decide +kernel
theorem dL_reason_41 : decode cL_reason 41 = .ok (.aload_n 1, 1) := by decide +kernel
theorem dL_reason_42 : decode cL_reason 42 = .ok (.iload 11, 2) := by decide +kernel
theorem dL_reason_44 : decode cL_reason 44 = .ok (.iload 4, 2) := by decide +kernel
theorem dL_reason_46 : decode cL_reason 46 = .ok (.invokestatic 15, 3) := by decide +kernel
theorem dL_reason_49 : decode cL_reason 49 = .ok (.ifCond .eq 106, 3) := by decide +kernel
theorem dL_reason_52 : decode cL_reason 52 = .ok (.aload_n 1, 1) := by decide +kernel
theorem dL_reason_53 : decode cL_reason 53 = .ok (.iload 12, 2) := by decide +kernel
theorem dL_reason_55 : decode cL_reason 55 = .ok (.iaload, 1) := by decide +kernel
theorem dL_reason_56 : decode cL_reason 56 = .ok (.iload_n 3, 1) := by decide +kernel
theorem dL_reason_57 : decode cL_reason 57 = .ok (.if_icmp .ne 32, 3) := by decide +kernel
theorem dL_reason_60 : decode cL_reason 60 = .ok (.iload 5, 2) := by decide +kernel
theorem dL_reason_62 : decode cL_reason 62 = .ok (.iload 6, 2) := by decide +kernel
theorem dL_reason_64 : decode cL_reason 64 = .ok (.aload_n 1, 1) := by decide +kernel
theorem dL_reason_65 : decode cL_reason 65 = .ok (.iload 12, 2) := by decide +kernel
theorem dL_reason_67 : decode cL_reason 67 = .ok (.iconst 2, 1) := by decide +kernel
theorem dL_reason_68 : decode cL_reason 68 = .ok (.iadd, 1) := by decide +kernel
theorem dL_reason_69 : decode cL_reason 69 = .ok (.iaload, 1) := by decide +kernel
theorem dL_reason_70 : decode cL_reason 70 = .ok (.aload_n 1, 1) := by decide +kernel
theorem dL_reason_71 : decode cL_reason 71 = .ok (.iload 12, 2) := by decide +kernel
theorem dL_reason_73 : decode cL_reason 73 = .ok (.iconst 3, 1) := by decide +kernel
theorem dL_reason_74 : decode cL_reason 74 = .ok (.iadd, 1) := by decide +kernel
theorem dL_reason_75 : decode cL_reason 75 = .ok (.iaload, 1) := by decide +kernel
theorem dL_reason_76 : decode cL_reason 76 = .ok (.aload_n 0, 1) := by decide +kernel
theorem dL_reason_77 : decode cL_reason 77 = .ok (.iconst 0, 1) := by decide +kernel
theorem dL_reason_78 : decode cL_reason 78 = .ok (.iaload, 1) := by decide +kernel
theorem dL_reason_79 : decode cL_reason 79 = .ok (.invokestatic 19, 3) := by decide +kernel
theorem dL_reason_82 : decode cL_reason 82 = .ok (.ifCond .eq 7, 3) := by decide +kernel
theorem dL_reason_85 : decode cL_reason 85 = .ok (.iconst 1, 1) := by decide +kernel
theorem dL_reason_86 : decode cL_reason 86 = .ok (.goto 4, 3) := by decide +kernel
theorem dL_reason_89 : decode cL_reason 89 = .ok (.iconst 0, 1) := by decide +kernel
theorem dL_reason_90 : decode cL_reason 90 = .ok (.istore 13, 2) := by decide +kernel
theorem dL_reason_92 : decode cL_reason 92 = .ok (.iload 10, 2) := by decide +kernel
theorem dL_reason_94 : decode cL_reason 94 = .ok (.ifCond .ne 19, 3) := by decide +kernel
theorem dL_reason_97 : decode cL_reason 97 = .ok (.iload 13, 2) := by decide +kernel
theorem dL_reason_99 : decode cL_reason 99 = .ok (.ifCond .eq 18, 3) := by decide +kernel
theorem dL_reason_102 : decode cL_reason 102 = .ok (.aload_n 1, 1) := by decide +kernel
theorem dL_reason_103 : decode cL_reason 103 = .ok (.iload 12, 2) := by decide +kernel
theorem dL_reason_105 : decode cL_reason 105 = .ok (.iconst 4, 1) := by decide +kernel
theorem dL_reason_106 : decode cL_reason 106 = .ok (.iadd, 1) := by decide +kernel
theorem dL_reason_107 : decode cL_reason 107 = .ok (.iaload, 1) := by decide +kernel
theorem dL_reason_108 : decode cL_reason 108 = .ok (.iload 7, 2) := by decide +kernel
theorem dL_reason_110 : decode cL_reason 110 = .ok (.if_icmp .lt 7, 3) := by decide +kernel
theorem dL_reason_113 : decode cL_reason 113 = .ok (.iconst 1, 1) := by decide +kernel
theorem dL_reason_114 : decode cL_reason 114 = .ok (.goto 4, 3) := by decide +kernel
theorem dL_reason_117 : decode cL_reason 117 = .ok (.iconst 0, 1) := by decide +kernel
theorem dL_reason_118 : decode cL_reason 118 = .ok (.istore 10, 2) := by decide +kernel
theorem dL_reason_120 : decode cL_reason 120 = .ok (.iload 13, 2) := by decide +kernel
theorem dL_reason_122 : decode cL_reason 122 = .ok (.ifCond .eq 8, 3) := by decide +kernel
theorem dL_reason_125 : decode cL_reason 125 = .ok (.iload 9, 2) := by decide +kernel
theorem dL_reason_127 : decode cL_reason 127 = .ok (.goto 26, 3) := by decide +kernel
theorem dL_reason_130 : decode cL_reason 130 = .ok (.aload 8, 2) := by decide +kernel
theorem dL_reason_132 : decode cL_reason 132 = .ok (.iload 9, 2) := by decide +kernel
theorem dL_reason_134 : decode cL_reason 134 = .ok (.aload_n 1, 1) := by decide +kernel
theorem dL_reason_135 : decode cL_reason 135 = .ok (.iload 12, 2) := by decide +kernel
theorem dL_reason_137 : decode cL_reason 137 = .ok (.iaload, 1) := by decide +kernel
theorem dL_reason_138 : decode cL_reason 138 = .ok (.aload_n 1, 1) := by decide +kernel
theorem dL_reason_139 : decode cL_reason 139 = .ok (.iload 12, 2) := by decide +kernel
theorem dL_reason_141 : decode cL_reason 141 = .ok (.iconst 2, 1) := by decide +kernel
theorem dL_reason_142 : decode cL_reason 142 = .ok (.iadd, 1) := by decide +kernel
theorem dL_reason_143 : decode cL_reason 143 = .ok (.iaload, 1) := by decide +kernel
theorem dL_reason_144 : decode cL_reason 144 = .ok (.aload_n 1, 1) := by decide +kernel
theorem dL_reason_145 : decode cL_reason 145 = .ok (.iload 12, 2) := by decide +kernel
theorem dL_reason_147 : decode cL_reason 147 = .ok (.iconst 3, 1) := by decide +kernel
theorem dL_reason_148 : decode cL_reason 148 = .ok (.iadd, 1) := by decide +kernel
theorem dL_reason_149 : decode cL_reason 149 = .ok (.iaload, 1) := by decide +kernel
theorem dL_reason_150 : decode cL_reason 150 = .ok (.invokestatic 9, 3) := by decide +kernel
theorem dL_reason_153 : decode cL_reason 153 = .ok (.istore 9, 2) := by decide +kernel
theorem dL_reason_155 : decode cL_reason 155 = .ok (.iinc 11 1, 3) := by decide +kernel
theorem dL_reason_158 : decode cL_reason 158 = .ok (.goto (-133), 3) := by decide +kernel
theorem dL_reason_161 : decode cL_reason 161 = .ok (.iconst 0, 1) := by decide +kernel
theorem dL_reason_162 : decode cL_reason 162 = .ok (.istore 11, 2) := by decide +kernel
theorem dL_reason_164 : decode cL_reason 164 = .ok (.iload 11, 2) := by decide +kernel
theorem dL_reason_166 : decode cL_reason 166 = .ok (.aload_n 0, 1) := by decide +kernel
theorem dL_reason_167 : decode cL_reason 167 = .ok (.bipush 12, 2) := by decide +kernel
theorem dL_reason_169 : decode cL_reason 169 = .ok (.iaload, 1) := by decide +kernel
theorem dL_reason_170 : decode cL_reason 170 = .ok (.if_icmp .ge 130, 3) := by decide +kernel
theorem dL_reason_173 : decode cL_reason 173 = .ok (.bipush 7, 2) := by decide +kernel
theorem dL_reason_175 : decode cL_reason 175 = .ok (.iload 11, 2) := by decide +kernel
theorem dL_reason_177 : decode cL_reason 177 = .ok (.imul, 1) := by decide +kernel
theorem dL_reason_178 : decode cL_reason 178 = .ok (.istore 12, 2) := by decide +kernel
theorem dL_reason_180 : decode cL_reason 180 = .ok (.aload_n 2, 1) := by decide +kernel
theorem dL_reason_181 : decode cL_reason 181 = .ok (.iload 12, 2) := by decide +kernel
theorem dL_reason_183 : decode cL_reason 183 = .ok (.iconst 1, 1) := by decide +kernel
theorem dL_reason_184 : decode cL_reason 184 = .ok (.iadd, 1) := by decide +kernel
theorem dL_reason_185 : decode cL_reason 185 = .ok (.iaload, 1) := by decide +kernel
theorem dL_reason_186 : decode cL_reason 186 = .ok (.iload 4, 2) := by decide +kernel
theorem dL_reason_188 : decode cL_reason 188 = .ok (.if_icmp .ne 106, 3) := by decide +kernel
theorem dL_reason_191 : decode cL_reason 191 = .ok (.aload_n 2, 1) := by decide +kernel
theorem dL_reason_192 : decode cL_reason 192 = .ok (.iload 12, 2) := by decide +kernel
theorem dL_reason_194 : decode cL_reason 194 = .ok (.iaload, 1) := by decide +kernel
theorem dL_reason_195 : decode cL_reason 195 = .ok (.iload_n 3, 1) := by decide +kernel
theorem dL_reason_196 : decode cL_reason 196 = .ok (.if_icmp .ne 32, 3) := by decide +kernel
theorem dL_reason_199 : decode cL_reason 199 = .ok (.iload 5, 2) := by decide +kernel
theorem dL_reason_201 : decode cL_reason 201 = .ok (.iload 6, 2) := by decide +kernel
theorem dL_reason_203 : decode cL_reason 203 = .ok (.aload_n 2, 1) := by decide +kernel
theorem dL_reason_204 : decode cL_reason 204 = .ok (.iload 12, 2) := by decide +kernel
theorem dL_reason_206 : decode cL_reason 206 = .ok (.iconst 2, 1) := by decide +kernel
theorem dL_reason_207 : decode cL_reason 207 = .ok (.iadd, 1) := by decide +kernel
theorem dL_reason_208 : decode cL_reason 208 = .ok (.iaload, 1) := by decide +kernel
theorem dL_reason_209 : decode cL_reason 209 = .ok (.aload_n 2, 1) := by decide +kernel
theorem dL_reason_210 : decode cL_reason 210 = .ok (.iload 12, 2) := by decide +kernel
theorem dL_reason_212 : decode cL_reason 212 = .ok (.iconst 3, 1) := by decide +kernel
theorem dL_reason_213 : decode cL_reason 213 = .ok (.iadd, 1) := by decide +kernel
theorem dL_reason_214 : decode cL_reason 214 = .ok (.iaload, 1) := by decide +kernel
theorem dL_reason_215 : decode cL_reason 215 = .ok (.aload_n 0, 1) := by decide +kernel
theorem dL_reason_216 : decode cL_reason 216 = .ok (.iconst 0, 1) := by decide +kernel
theorem dL_reason_217 : decode cL_reason 217 = .ok (.iaload, 1) := by decide +kernel
theorem dL_reason_218 : decode cL_reason 218 = .ok (.invokestatic 19, 3) := by decide +kernel
theorem dL_reason_221 : decode cL_reason 221 = .ok (.ifCond .eq 7, 3) := by decide +kernel
theorem dL_reason_224 : decode cL_reason 224 = .ok (.iconst 1, 1) := by decide +kernel
theorem dL_reason_225 : decode cL_reason 225 = .ok (.goto 4, 3) := by decide +kernel
theorem dL_reason_228 : decode cL_reason 228 = .ok (.iconst 0, 1) := by decide +kernel
theorem dL_reason_229 : decode cL_reason 229 = .ok (.istore 13, 2) := by decide +kernel
theorem dL_reason_231 : decode cL_reason 231 = .ok (.iload 10, 2) := by decide +kernel
theorem dL_reason_233 : decode cL_reason 233 = .ok (.ifCond .ne 19, 3) := by decide +kernel
theorem dL_reason_236 : decode cL_reason 236 = .ok (.iload 13, 2) := by decide +kernel
theorem dL_reason_238 : decode cL_reason 238 = .ok (.ifCond .eq 18, 3) := by decide +kernel
theorem dL_reason_241 : decode cL_reason 241 = .ok (.aload_n 2, 1) := by decide +kernel
theorem dL_reason_242 : decode cL_reason 242 = .ok (.iload 12, 2) := by decide +kernel
theorem dL_reason_244 : decode cL_reason 244 = .ok (.iconst 4, 1) := by decide +kernel
theorem dL_reason_245 : decode cL_reason 245 = .ok (.iadd, 1) := by decide +kernel
theorem dL_reason_246 : decode cL_reason 246 = .ok (.iaload, 1) := by decide +kernel
theorem dL_reason_247 : decode cL_reason 247 = .ok (.iload 7, 2) := by decide +kernel
theorem dL_reason_249 : decode cL_reason 249 = .ok (.if_icmp .lt 7, 3) := by decide +kernel
theorem dL_reason_252 : decode cL_reason 252 = .ok (.iconst 1, 1) := by decide +kernel
theorem dL_reason_253 : decode cL_reason 253 = .ok (.goto 4, 3) := by decide +kernel
theorem dL_reason_256 : decode cL_reason 256 = .ok (.iconst 0, 1) := by decide +kernel
theorem dL_reason_257 : decode cL_reason 257 = .ok (.istore 10, 2) := by decide +kernel
theorem dL_reason_259 : decode cL_reason 259 = .ok (.iload 13, 2) := by decide +kernel
theorem dL_reason_261 : decode cL_reason 261 = .ok (.ifCond .eq 8, 3) := by decide +kernel
theorem dL_reason_264 : decode cL_reason 264 = .ok (.iload 9, 2) := by decide +kernel
theorem dL_reason_266 : decode cL_reason 266 = .ok (.goto 26, 3) := by decide +kernel
theorem dL_reason_269 : decode cL_reason 269 = .ok (.aload 8, 2) := by decide +kernel
theorem dL_reason_271 : decode cL_reason 271 = .ok (.iload 9, 2) := by decide +kernel
theorem dL_reason_273 : decode cL_reason 273 = .ok (.aload_n 2, 1) := by decide +kernel
theorem dL_reason_274 : decode cL_reason 274 = .ok (.iload 12, 2) := by decide +kernel
theorem dL_reason_276 : decode cL_reason 276 = .ok (.iaload, 1) := by decide +kernel
theorem dL_reason_277 : decode cL_reason 277 = .ok (.aload_n 2, 1) := by decide +kernel
theorem dL_reason_278 : decode cL_reason 278 = .ok (.iload 12, 2) := by decide +kernel
theorem dL_reason_280 : decode cL_reason 280 = .ok (.iconst 2, 1) := by decide +kernel
theorem dL_reason_281 : decode cL_reason 281 = .ok (.iadd, 1) := by decide +kernel
theorem dL_reason_282 : decode cL_reason 282 = .ok (.iaload, 1) := by decide +kernel
theorem dL_reason_283 : decode cL_reason 283 = .ok (.aload_n 2, 1) := by decide +kernel
theorem dL_reason_284 : decode cL_reason 284 = .ok (.iload 12, 2) := by decide +kernel
theorem dL_reason_286 : decode cL_reason 286 = .ok (.iconst 3, 1) := by decide +kernel
theorem dL_reason_287 : decode cL_reason 287 = .ok (.iadd, 1) := by decide +kernel
theorem dL_reason_288 : decode cL_reason 288 = .ok (.iaload, 1) := by decide +kernel
theorem dL_reason_289 : decode cL_reason 289 = .ok (.invokestatic 9, 3) := by decide +kernel
theorem dL_reason_292 : decode cL_reason 292 = .ok (.istore 9, 2) := by decide +kernel
theorem dL_reason_294 : decode cL_reason 294 = .ok (.iinc 11 1, 3) := by decide +kernel
theorem dL_reason_297 : decode cL_reason 297 = .ok (.goto (-133), 3) := by decide +kernel
theorem dL_reason_300 : decode cL_reason 300 = .ok (.iload 10, 2) := by decide +kernel
theorem dL_reason_302 : decode cL_reason 302 = .ok (.ifCond .eq 7, 3) := by decide +kernel
theorem dL_reason_305 : decode cL_reason 305 = .ok (.iconst 2, 1) := by decide +kernel
theorem dL_reason_306 : decode cL_reason 306 = .ok (.goto 21, 3) := by decide +kernel
theorem dL_reason_309 : decode cL_reason 309 = .ok (.aload 8, 2) := by decide +kernel
theorem dL_reason_311 : decode cL_reason 311 = .ok (.iload 9, 2) := by decide +kernel
theorem dL_reason_313 : decode cL_reason 313 = .ok (.aload_n 0, 1) := by decide +kernel
theorem dL_reason_314 : decode cL_reason 314 = .ok (.iconst 0, 1) := by decide +kernel
theorem dL_reason_315 : decode cL_reason 315 = .ok (.iaload, 1) := by decide +kernel
theorem dL_reason_316 : decode cL_reason 316 = .ok (.invokestatic 23, 3) := by decide +kernel
theorem dL_reason_319 : decode cL_reason 319 = .ok (.ifCond .eq 7, 3) := by decide +kernel
theorem dL_reason_322 : decode cL_reason 322 = .ok (.iconst 0, 1) := by decide +kernel
theorem dL_reason_323 : decode cL_reason 323 = .ok (.goto 4, 3) := by decide +kernel
theorem dL_reason_326 : decode cL_reason 326 = .ok (.iconst 3, 1) := by decide +kernel
theorem dL_reason_327 : decode cL_reason 327 = .ok (.ireturn, 1) := by decide +kernel
theorem dL_rent_0 : decode cL_rent 0 = .ok (.aload_n 0, 1) := by decide +kernel
theorem dL_rent_1 : decode cL_rent 1 = .ok (.iconst 5, 1) := by decide +kernel
theorem dL_rent_2 : decode cL_rent 2 = .ok (.iload_n 1, 1) := by decide +kernel
theorem dL_rent_3 : decode cL_rent 3 = .ok (.iadd, 1) := by decide +kernel
theorem dL_rent_4 : decode cL_rent 4 = .ok (.iaload, 1) := by decide +kernel
theorem dL_rent_5 : decode cL_rent 5 = .ok (.iload_n 3, 1) := by decide +kernel
theorem dL_rent_6 : decode cL_rent 6 = .ok (.imul, 1) := by decide +kernel
theorem dL_rent_7 : decode cL_rent 7 = .ok (.iload 4, 2) := by decide +kernel
theorem dL_rent_9 : decode cL_rent 9 = .ok (.imul, 1) := by decide +kernel
theorem dL_rent_10 : decode cL_rent 10 = .ok (.bipush 100, 2) := by decide +kernel
theorem dL_rent_12 : decode cL_rent 12 = .ok (.idiv, 1) := by decide +kernel
theorem dL_rent_13 : decode cL_rent 13 = .ok (.istore 5, 2) := by decide +kernel
theorem dL_rent_15 : decode cL_rent 15 = .ok (.iload_n 2, 1) := by decide +kernel
theorem dL_rent_16 : decode cL_rent 16 = .ok (.iconst 5, 1) := by decide +kernel
theorem dL_rent_17 : decode cL_rent 17 = .ok (.if_icmp .ge 8, 3) := by decide +kernel
theorem dL_rent_20 : decode cL_rent 20 = .ok (.iload 5, 2) := by decide +kernel
theorem dL_rent_22 : decode cL_rent 22 = .ok (.goto 15, 3) := by decide +kernel
theorem dL_rent_25 : decode cL_rent 25 = .ok (.iload 5, 2) := by decide +kernel
theorem dL_rent_27 : decode cL_rent 27 = .ok (.bipush 100, 2) := by decide +kernel
theorem dL_rent_29 : decode cL_rent 29 = .ok (.aload_n 0, 1) := by decide +kernel
theorem dL_rent_30 : decode cL_rent 30 = .ok (.iconst 2, 1) := by decide +kernel
theorem dL_rent_31 : decode cL_rent 31 = .ok (.iaload, 1) := by decide +kernel
theorem dL_rent_32 : decode cL_rent 32 = .ok (.iadd, 1) := by decide +kernel
theorem dL_rent_33 : decode cL_rent 33 = .ok (.imul, 1) := by decide +kernel
theorem dL_rent_34 : decode cL_rent 34 = .ok (.bipush 100, 2) := by decide +kernel
theorem dL_rent_36 : decode cL_rent 36 = .ok (.idiv, 1) := by decide +kernel
theorem dL_rent_37 : decode cL_rent 37 = .ok (.ireturn, 1) := by decide +kernel
theorem dL_goes_0 : decode cL_goes 0 = .ok (.aload_n 0, 1) := by decide +kernel
theorem dL_goes_1 : decode cL_goes 1 = .ok (.bipush 12, 2) := by decide +kernel
theorem dL_goes_3 : decode cL_goes 3 = .ok (.dup2, 1) := by decide +kernel
theorem dL_goes_4 : decode cL_goes 4 = .ok (.iaload, 1) := by decide +kernel
theorem dL_goes_5 : decode cL_goes 5 = .ok (.iconst 1, 1) := by decide +kernel
theorem dL_goes_6 : decode cL_goes 6 = .ok (.isub, 1) := by decide +kernel
theorem dL_goes_7 : decode cL_goes 7 = .ok (.iastore, 1) := by decide +kernel
theorem dL_goes_8 : decode cL_goes 8 = .ok (.bipush 7, 2) := by decide +kernel
theorem dL_goes_10 : decode cL_goes 10 = .ok (.iload_n 2, 1) := by decide +kernel
theorem dL_goes_11 : decode cL_goes 11 = .ok (.imul, 1) := by decide +kernel
theorem dL_goes_12 : decode cL_goes 12 = .ok (.istore_n 3, 1) := by decide +kernel
theorem dL_goes_13 : decode cL_goes 13 = .ok (.iload_n 3, 1) := by decide +kernel
theorem dL_goes_14 : decode cL_goes 14 = .ok (.bipush 7, 2) := by decide +kernel
theorem dL_goes_16 : decode cL_goes 16 = .ok (.aload_n 0, 1) := by decide +kernel
theorem dL_goes_17 : decode cL_goes 17 = .ok (.bipush 12, 2) := by decide +kernel
theorem dL_goes_19 : decode cL_goes 19 = .ok (.iaload, 1) := by decide +kernel
theorem dL_goes_20 : decode cL_goes 20 = .ok (.imul, 1) := by decide +kernel
theorem dL_goes_21 : decode cL_goes 21 = .ok (.if_icmp .ge 18, 3) := by decide +kernel
theorem dL_goes_24 : decode cL_goes 24 = .ok (.aload_n 1, 1) := by decide +kernel
theorem dL_goes_25 : decode cL_goes 25 = .ok (.iload_n 3, 1) := by decide +kernel
theorem dL_goes_26 : decode cL_goes 26 = .ok (.aload_n 1, 1) := by decide +kernel
theorem dL_goes_27 : decode cL_goes 27 = .ok (.iload_n 3, 1) := by decide +kernel
theorem dL_goes_28 : decode cL_goes 28 = .ok (.bipush 7, 2) := by decide +kernel
theorem dL_goes_30 : decode cL_goes 30 = .ok (.iadd, 1) := by decide +kernel
theorem dL_goes_31 : decode cL_goes 31 = .ok (.iaload, 1) := by decide +kernel
theorem dL_goes_32 : decode cL_goes 32 = .ok (.iastore, 1) := by decide +kernel
theorem dL_goes_33 : decode cL_goes 33 = .ok (.iinc 3 1, 3) := by decide +kernel
theorem dL_goes_36 : decode cL_goes 36 = .ok (.goto (-23), 3) := by decide +kernel
theorem dL_goes_39 : decode cL_goes 39 = .ok (.return_, 1) := by decide +kernel
theorem dL_givesWay_0 : decode cL_givesWay 0 = .ok (.iconst 0, 1) := by decide +kernel
theorem dL_givesWay_1 : decode cL_givesWay 1 = .ok (.istore 7, 2) := by decide +kernel
theorem dL_givesWay_3 : decode cL_givesWay 3 = .ok (.iconst 0, 1) := by decide +kernel
theorem dL_givesWay_4 : decode cL_givesWay 4 = .ok (.istore 8, 2) := by decide +kernel
theorem dL_givesWay_6 : decode cL_givesWay 6 = .ok (.iload 8, 2) := by decide +kernel
theorem dL_givesWay_8 : decode cL_givesWay 8 = .ok (.aload_n 0, 1) := by decide +kernel
theorem dL_givesWay_9 : decode cL_givesWay 9 = .ok (.bipush 11, 2) := by decide +kernel
theorem dL_givesWay_11 : decode cL_givesWay 11 = .ok (.iaload, 1) := by decide +kernel
theorem dL_givesWay_12 : decode cL_givesWay 12 = .ok (.if_icmp .ge 94, 3) := by decide +kernel
theorem dL_givesWay_15 : decode cL_givesWay 15 = .ok (.bipush 11, 2) := by decide +kernel
theorem dL_givesWay_17 : decode cL_givesWay 17 = .ok (.iload 8, 2) := by decide +kernel
theorem dL_givesWay_19 : decode cL_givesWay 19 = .ok (.imul, 1) := by decide +kernel
theorem dL_givesWay_20 : decode cL_givesWay 20 = .ok (.istore 9, 2) := by decide +kernel
theorem dL_givesWay_22 : decode cL_givesWay 22 = .ok (.aload_n 1, 1) := by decide +kernel
theorem dL_givesWay_23 : decode cL_givesWay 23 = .ok (.iload 9, 2) := by decide +kernel
theorem dL_givesWay_25 : decode cL_givesWay 25 = .ok (.iaload, 1) := by decide +kernel
theorem dL_givesWay_26 : decode cL_givesWay 26 = .ok (.iload_n 3, 1) := by decide +kernel
theorem dL_givesWay_27 : decode cL_givesWay 27 = .ok (.if_icmp .ne 73, 3) := by decide +kernel
theorem dL_givesWay_30 : decode cL_givesWay 30 = .ok (.aload_n 1, 1) := by decide +kernel
theorem dL_givesWay_31 : decode cL_givesWay 31 = .ok (.iload 8, 2) := by decide +kernel
theorem dL_givesWay_33 : decode cL_givesWay 33 = .ok (.iload 4, 2) := by decide +kernel
theorem dL_givesWay_35 : decode cL_givesWay 35 = .ok (.invokestatic 15, 3) := by decide +kernel
theorem dL_givesWay_38 : decode cL_givesWay 38 = .ok (.ifCond .eq 62, 3) := by decide +kernel
theorem dL_givesWay_41 : decode cL_givesWay 41 = .ok (.iload 5, 2) := by decide +kernel
theorem dL_givesWay_43 : decode cL_givesWay 43 = .ok (.iload 6, 2) := by decide +kernel
theorem dL_givesWay_45 : decode cL_givesWay 45 = .ok (.aload_n 1, 1) := by decide +kernel
theorem dL_givesWay_46 : decode cL_givesWay 46 = .ok (.iload 9, 2) := by decide +kernel
theorem dL_givesWay_48 : decode cL_givesWay 48 = .ok (.iconst 2, 1) := by decide +kernel
theorem dL_givesWay_49 : decode cL_givesWay 49 = .ok (.iadd, 1) := by decide +kernel
theorem dL_givesWay_50 : decode cL_givesWay 50 = .ok (.iaload, 1) := by decide +kernel
theorem dL_givesWay_51 : decode cL_givesWay 51 = .ok (.aload_n 1, 1) := by decide +kernel
theorem dL_givesWay_52 : decode cL_givesWay 52 = .ok (.iload 9, 2) := by decide +kernel
theorem dL_givesWay_54 : decode cL_givesWay 54 = .ok (.iconst 3, 1) := by decide +kernel
theorem dL_givesWay_55 : decode cL_givesWay 55 = .ok (.iadd, 1) := by decide +kernel
theorem dL_givesWay_56 : decode cL_givesWay 56 = .ok (.iaload, 1) := by decide +kernel
theorem dL_givesWay_57 : decode cL_givesWay 57 = .ok (.aload_n 0, 1) := by decide +kernel
theorem dL_givesWay_58 : decode cL_givesWay 58 = .ok (.iconst 0, 1) := by decide +kernel
theorem dL_givesWay_59 : decode cL_givesWay 59 = .ok (.iaload, 1) := by decide +kernel
theorem dL_givesWay_60 : decode cL_givesWay 60 = .ok (.invokestatic 19, 3) := by decide +kernel
theorem dL_givesWay_63 : decode cL_givesWay 63 = .ok (.ifCond .eq 37, 3) := by decide +kernel
theorem dL_givesWay_66 : decode cL_givesWay 66 = .ok (.aload_n 1, 1) := by decide +kernel
theorem dL_givesWay_67 : decode cL_givesWay 67 = .ok (.iload 9, 2) := by decide +kernel
theorem dL_givesWay_69 : decode cL_givesWay 69 = .ok (.bipush 9, 2) := by decide +kernel
theorem dL_givesWay_71 : decode cL_givesWay 71 = .ok (.iadd, 1) := by decide +kernel
theorem dL_givesWay_72 : decode cL_givesWay 72 = .ok (.dup2, 1) := by decide +kernel
theorem dL_givesWay_73 : decode cL_givesWay 73 = .ok (.iaload, 1) := by decide +kernel
theorem dL_givesWay_74 : decode cL_givesWay 74 = .ok (.iconst 1, 1) := by decide +kernel
theorem dL_givesWay_75 : decode cL_givesWay 75 = .ok (.iload 4, 2) := by decide +kernel
theorem dL_givesWay_77 : decode cL_givesWay 77 = .ok (.bipush 7, 2) := by decide +kernel
theorem dL_givesWay_79 : decode cL_givesWay 79 = .ok (.idiv, 1) := by decide +kernel
theorem dL_givesWay_80 : decode cL_givesWay 80 = .ok (.ishl, 1) := by decide +kernel
theorem dL_givesWay_81 : decode cL_givesWay 81 = .ok (.isub, 1) := by decide +kernel
theorem dL_givesWay_82 : decode cL_givesWay 82 = .ok (.iastore, 1) := by decide +kernel
theorem dL_givesWay_83 : decode cL_givesWay 83 = .ok (.aload_n 0, 1) := by decide +kernel
theorem dL_givesWay_84 : decode cL_givesWay 84 = .ok (.bipush 9, 2) := by decide +kernel
theorem dL_givesWay_86 : decode cL_givesWay 86 = .ok (.dup2, 1) := by decide +kernel
theorem dL_givesWay_87 : decode cL_givesWay 87 = .ok (.iaload, 1) := by decide +kernel
theorem dL_givesWay_88 : decode cL_givesWay 88 = .ok (.aload_n 1, 1) := by decide +kernel
theorem dL_givesWay_89 : decode cL_givesWay 89 = .ok (.iload 9, 2) := by decide +kernel
theorem dL_givesWay_91 : decode cL_givesWay 91 = .ok (.bipush 6, 2) := by decide +kernel
theorem dL_givesWay_93 : decode cL_givesWay 93 = .ok (.iadd, 1) := by decide +kernel
theorem dL_givesWay_94 : decode cL_givesWay 94 = .ok (.iaload, 1) := by decide +kernel
theorem dL_givesWay_95 : decode cL_givesWay 95 = .ok (.iadd, 1) := by decide +kernel
theorem dL_givesWay_96 : decode cL_givesWay 96 = .ok (.iastore, 1) := by decide +kernel
theorem dL_givesWay_97 : decode cL_givesWay 97 = .ok (.iinc 7 1, 3) := by decide +kernel
theorem dL_givesWay_100 : decode cL_givesWay 100 = .ok (.iinc 8 1, 3) := by decide +kernel
theorem dL_givesWay_103 : decode cL_givesWay 103 = .ok (.goto (-97), 3) := by decide +kernel
theorem dL_givesWay_106 : decode cL_givesWay 106 = .ok (.iconst 0, 1) := by decide +kernel
theorem dL_givesWay_107 : decode cL_givesWay 107 = .ok (.istore 8, 2) := by decide +kernel
theorem dL_givesWay_109 : decode cL_givesWay 109 = .ok (.iload 8, 2) := by decide +kernel
theorem dL_givesWay_111 : decode cL_givesWay 111 = .ok (.aload_n 0, 1) := by decide +kernel
theorem dL_givesWay_112 : decode cL_givesWay 112 = .ok (.bipush 12, 2) := by decide +kernel
theorem dL_givesWay_114 : decode cL_givesWay 114 = .ok (.iaload, 1) := by decide +kernel
theorem dL_givesWay_115 : decode cL_givesWay 115 = .ok (.if_icmp .ge 108, 3) := by decide +kernel
theorem dL_givesWay_118 : decode cL_givesWay 118 = .ok (.bipush 7, 2) := by decide +kernel
theorem dL_givesWay_120 : decode cL_givesWay 120 = .ok (.iload 8, 2) := by decide +kernel
theorem dL_givesWay_122 : decode cL_givesWay 122 = .ok (.imul, 1) := by decide +kernel
theorem dL_givesWay_123 : decode cL_givesWay 123 = .ok (.istore 9, 2) := by decide +kernel
theorem dL_givesWay_125 : decode cL_givesWay 125 = .ok (.aload_n 2, 1) := by decide +kernel
theorem dL_givesWay_126 : decode cL_givesWay 126 = .ok (.iload 9, 2) := by decide +kernel
theorem dL_givesWay_128 : decode cL_givesWay 128 = .ok (.iaload, 1) := by decide +kernel
theorem dL_givesWay_129 : decode cL_givesWay 129 = .ok (.iload_n 3, 1) := by decide +kernel
theorem dL_givesWay_130 : decode cL_givesWay 130 = .ok (.if_icmp .ne 43, 3) := by decide +kernel
theorem dL_givesWay_133 : decode cL_givesWay 133 = .ok (.aload_n 2, 1) := by decide +kernel
theorem dL_givesWay_134 : decode cL_givesWay 134 = .ok (.iload 9, 2) := by decide +kernel
theorem dL_givesWay_136 : decode cL_givesWay 136 = .ok (.iconst 1, 1) := by decide +kernel
theorem dL_givesWay_137 : decode cL_givesWay 137 = .ok (.iadd, 1) := by decide +kernel
theorem dL_givesWay_138 : decode cL_givesWay 138 = .ok (.iaload, 1) := by decide +kernel
theorem dL_givesWay_139 : decode cL_givesWay 139 = .ok (.iload 4, 2) := by decide +kernel
theorem dL_givesWay_141 : decode cL_givesWay 141 = .ok (.if_icmp .ne 32, 3) := by decide +kernel
theorem dL_givesWay_144 : decode cL_givesWay 144 = .ok (.iload 5, 2) := by decide +kernel
theorem dL_givesWay_146 : decode cL_givesWay 146 = .ok (.iload 6, 2) := by decide +kernel
theorem dL_givesWay_148 : decode cL_givesWay 148 = .ok (.aload_n 2, 1) := by decide +kernel
theorem dL_givesWay_149 : decode cL_givesWay 149 = .ok (.iload 9, 2) := by decide +kernel
theorem dL_givesWay_151 : decode cL_givesWay 151 = .ok (.iconst 2, 1) := by decide +kernel
theorem dL_givesWay_152 : decode cL_givesWay 152 = .ok (.iadd, 1) := by decide +kernel
theorem dL_givesWay_153 : decode cL_givesWay 153 = .ok (.iaload, 1) := by decide +kernel
theorem dL_givesWay_154 : decode cL_givesWay 154 = .ok (.aload_n 2, 1) := by decide +kernel
theorem dL_givesWay_155 : decode cL_givesWay 155 = .ok (.iload 9, 2) := by decide +kernel
theorem dL_givesWay_157 : decode cL_givesWay 157 = .ok (.iconst 3, 1) := by decide +kernel
theorem dL_givesWay_158 : decode cL_givesWay 158 = .ok (.iadd, 1) := by decide +kernel
theorem dL_givesWay_159 : decode cL_givesWay 159 = .ok (.iaload, 1) := by decide +kernel
theorem dL_givesWay_160 : decode cL_givesWay 160 = .ok (.aload_n 0, 1) := by decide +kernel
theorem dL_givesWay_161 : decode cL_givesWay 161 = .ok (.iconst 0, 1) := by decide +kernel
theorem dL_givesWay_162 : decode cL_givesWay 162 = .ok (.iaload, 1) := by decide +kernel
theorem dL_givesWay_163 : decode cL_givesWay 163 = .ok (.invokestatic 19, 3) := by decide +kernel
theorem dL_givesWay_166 : decode cL_givesWay 166 = .ok (.ifCond .eq 7, 3) := by decide +kernel
theorem dL_givesWay_169 : decode cL_givesWay 169 = .ok (.iconst 1, 1) := by decide +kernel
theorem dL_givesWay_170 : decode cL_givesWay 170 = .ok (.goto 4, 3) := by decide +kernel
theorem dL_givesWay_173 : decode cL_givesWay 173 = .ok (.iconst 0, 1) := by decide +kernel
theorem dL_givesWay_174 : decode cL_givesWay 174 = .ok (.istore 10, 2) := by decide +kernel
theorem dL_givesWay_176 : decode cL_givesWay 176 = .ok (.iload 10, 2) := by decide +kernel
theorem dL_givesWay_178 : decode cL_givesWay 178 = .ok (.ifCond .eq 27, 3) := by decide +kernel
theorem dL_givesWay_181 : decode cL_givesWay 181 = .ok (.aload_n 0, 1) := by decide +kernel
theorem dL_givesWay_182 : decode cL_givesWay 182 = .ok (.bipush 9, 2) := by decide +kernel
theorem dL_givesWay_184 : decode cL_givesWay 184 = .ok (.dup2, 1) := by decide +kernel
theorem dL_givesWay_185 : decode cL_givesWay 185 = .ok (.iaload, 1) := by decide +kernel
theorem dL_givesWay_186 : decode cL_givesWay 186 = .ok (.aload_n 2, 1) := by decide +kernel
theorem dL_givesWay_187 : decode cL_givesWay 187 = .ok (.iload 9, 2) := by decide +kernel
theorem dL_givesWay_189 : decode cL_givesWay 189 = .ok (.bipush 6, 2) := by decide +kernel
theorem dL_givesWay_191 : decode cL_givesWay 191 = .ok (.iadd, 1) := by decide +kernel
theorem dL_givesWay_192 : decode cL_givesWay 192 = .ok (.iaload, 1) := by decide +kernel
theorem dL_givesWay_193 : decode cL_givesWay 193 = .ok (.iadd, 1) := by decide +kernel
theorem dL_givesWay_194 : decode cL_givesWay 194 = .ok (.iastore, 1) := by decide +kernel
theorem dL_givesWay_195 : decode cL_givesWay 195 = .ok (.iinc 7 1, 3) := by decide +kernel
theorem dL_givesWay_198 : decode cL_givesWay 198 = .ok (.aload_n 0, 1) := by decide +kernel
theorem dL_givesWay_199 : decode cL_givesWay 199 = .ok (.aload_n 2, 1) := by decide +kernel
theorem dL_givesWay_200 : decode cL_givesWay 200 = .ok (.iload 8, 2) := by decide +kernel
theorem dL_givesWay_202 : decode cL_givesWay 202 = .ok (.invokestatic 26, 3) := by decide +kernel
theorem dL_givesWay_205 : decode cL_givesWay 205 = .ok (.iload 8, 2) := by decide +kernel
theorem dL_givesWay_207 : decode cL_givesWay 207 = .ok (.iload 10, 2) := by decide +kernel
theorem dL_givesWay_209 : decode cL_givesWay 209 = .ok (.ifCond .eq 7, 3) := by decide +kernel
theorem dL_givesWay_212 : decode cL_givesWay 212 = .ok (.iconst 0, 1) := by decide +kernel
theorem dL_givesWay_213 : decode cL_givesWay 213 = .ok (.goto 4, 3) := by decide +kernel
theorem dL_givesWay_216 : decode cL_givesWay 216 = .ok (.iconst 1, 1) := by decide +kernel
theorem dL_givesWay_217 : decode cL_givesWay 217 = .ok (.iadd, 1) := by decide +kernel
theorem dL_givesWay_218 : decode cL_givesWay 218 = .ok (.istore 8, 2) := by decide +kernel
theorem dL_givesWay_220 : decode cL_givesWay 220 = .ok (.goto (-111), 3) := by decide +kernel
theorem dL_givesWay_223 : decode cL_givesWay 223 = .ok (.aload_n 0, 1) := by decide +kernel
theorem dL_givesWay_224 : decode cL_givesWay 224 = .ok (.bipush 10, 2) := by decide +kernel
theorem dL_givesWay_226 : decode cL_givesWay 226 = .ok (.dup2, 1) := by decide +kernel
theorem dL_givesWay_227 : decode cL_givesWay 227 = .ok (.iaload, 1) := by decide +kernel
theorem dL_givesWay_228 : decode cL_givesWay 228 = .ok (.iload 7, 2) := by decide +kernel
theorem dL_givesWay_230 : decode cL_givesWay 230 = .ok (.iadd, 1) := by decide +kernel
theorem dL_givesWay_231 : decode cL_givesWay 231 = .ok (.iastore, 1) := by decide +kernel
theorem dL_givesWay_232 : decode cL_givesWay 232 = .ok (.iload 7, 2) := by decide +kernel
theorem dL_givesWay_234 : decode cL_givesWay 234 = .ok (.ireturn, 1) := by decide +kernel
theorem dL_singles_0 : decode cL_singles 0 = .ok (.aload_n 1, 1) := by decide +kernel
theorem dL_singles_1 : decode cL_singles 1 = .ok (.aload_n 2, 1) := by decide +kernel
theorem dL_singles_2 : decode cL_singles 2 = .ok (.aload_n 3, 1) := by decide +kernel
theorem dL_singles_3 : decode cL_singles 3 = .ok (.iload 4, 2) := by decide +kernel
theorem dL_singles_5 : decode cL_singles 5 = .ok (.iload 5, 2) := by decide +kernel
theorem dL_singles_7 : decode cL_singles 7 = .ok (.iload 6, 2) := by decide +kernel
theorem dL_singles_9 : decode cL_singles 9 = .ok (.iload 7, 2) := by decide +kernel
theorem dL_singles_11 : decode cL_singles 11 = .ok (.iload 8, 2) := by decide +kernel
theorem dL_singles_13 : decode cL_singles 13 = .ok (.invokestatic 30, 3) := by decide +kernel
theorem dL_singles_16 : decode cL_singles 16 = .ok (.istore 10, 2) := by decide +kernel
theorem dL_singles_18 : decode cL_singles 18 = .ok (.iload 10, 2) := by decide +kernel
theorem dL_singles_20 : decode cL_singles 20 = .ok (.ifCond .gt 12, 3) := by decide +kernel
theorem dL_singles_23 : decode cL_singles 23 = .ok (.aload_n 1, 1) := by decide +kernel
theorem dL_singles_24 : decode cL_singles 24 = .ok (.bipush 12, 2) := by decide +kernel
theorem dL_singles_26 : decode cL_singles 26 = .ok (.iaload, 1) := by decide +kernel
theorem dL_singles_27 : decode cL_singles 27 = .ok (.bipush 8, 2) := by decide +kernel
theorem dL_singles_29 : decode cL_singles 29 = .ok (.if_icmp .ne 28, 3) := by decide +kernel
theorem dL_singles_32 : decode cL_singles 32 = .ok (.aload_n 0, 1) := by decide +kernel
theorem dL_singles_33 : decode cL_singles 33 = .ok (.iload 4, 2) := by decide +kernel
theorem dL_singles_35 : decode cL_singles 35 = .ok (.iload 5, 2) := by decide +kernel
theorem dL_singles_37 : decode cL_singles 37 = .ok (.iload 6, 2) := by decide +kernel
theorem dL_singles_39 : decode cL_singles 39 = .ok (.iload 7, 2) := by decide +kernel
theorem dL_singles_41 : decode cL_singles 41 = .ok (.iload 8, 2) := by decide +kernel
theorem dL_singles_43 : decode cL_singles 43 = .ok (.invokevirtual 34, 3) := by decide +kernel
theorem dL_singles_46 : decode cL_singles 46 = .ok (.iload 10, 2) := by decide +kernel
theorem dL_singles_48 : decode cL_singles 48 = .ok (.if_icmp .ne 7, 3) := by decide +kernel
theorem dL_singles_51 : decode cL_singles 51 = .ok (.iconst 1, 1) := by decide +kernel
theorem dL_singles_52 : decode cL_singles 52 = .ok (.goto 4, 3) := by decide +kernel
theorem dL_singles_55 : decode cL_singles 55 = .ok (.iconst 0, 1) := by decide +kernel
theorem dL_singles_56 : decode cL_singles 56 = .ok (.ireturn, 1) := by decide +kernel
theorem dL_singles_57 : decode cL_singles 57 = .ok (.aload_n 1, 1) := by decide +kernel
theorem dL_singles_58 : decode cL_singles 58 = .ok (.aload_n 2, 1) := by decide +kernel
theorem dL_singles_59 : decode cL_singles 59 = .ok (.aload_n 3, 1) := by decide +kernel
theorem dL_singles_60 : decode cL_singles 60 = .ok (.iload 4, 2) := by decide +kernel
theorem dL_singles_62 : decode cL_singles 62 = .ok (.iload 5, 2) := by decide +kernel
theorem dL_singles_64 : decode cL_singles 64 = .ok (.iload 6, 2) := by decide +kernel
theorem dL_singles_66 : decode cL_singles 66 = .ok (.iload 7, 2) := by decide +kernel
theorem dL_singles_68 : decode cL_singles 68 = .ok (.invokestatic 40, 3) := by decide +kernel
theorem dL_singles_71 : decode cL_singles 71 = .ok (.istore 11, 2) := by decide +kernel
theorem dL_singles_73 : decode cL_singles 73 = .ok (.bipush 7, 2) := by decide +kernel
theorem dL_singles_75 : decode cL_singles 75 = .ok (.aload_n 1, 1) := by decide +kernel
theorem dL_singles_76 : decode cL_singles 76 = .ok (.bipush 12, 2) := by decide +kernel
theorem dL_singles_78 : decode cL_singles 78 = .ok (.iaload, 1) := by decide +kernel
theorem dL_singles_79 : decode cL_singles 79 = .ok (.imul, 1) := by decide +kernel
theorem dL_singles_80 : decode cL_singles 80 = .ok (.istore 12, 2) := by decide +kernel
theorem dL_singles_82 : decode cL_singles 82 = .ok (.aload_n 3, 1) := by decide +kernel
theorem dL_singles_83 : decode cL_singles 83 = .ok (.iload 12, 2) := by decide +kernel
theorem dL_singles_85 : decode cL_singles 85 = .ok (.iload 4, 2) := by decide +kernel
theorem dL_singles_87 : decode cL_singles 87 = .ok (.iastore, 1) := by decide +kernel
theorem dL_singles_88 : decode cL_singles 88 = .ok (.aload_n 3, 1) := by decide +kernel
theorem dL_singles_89 : decode cL_singles 89 = .ok (.iload 12, 2) := by decide +kernel
theorem dL_singles_91 : decode cL_singles 91 = .ok (.iconst 1, 1) := by decide +kernel
theorem dL_singles_92 : decode cL_singles 92 = .ok (.iadd, 1) := by decide +kernel
theorem dL_singles_93 : decode cL_singles 93 = .ok (.iload 5, 2) := by decide +kernel
theorem dL_singles_95 : decode cL_singles 95 = .ok (.iastore, 1) := by decide +kernel
theorem dL_singles_96 : decode cL_singles 96 = .ok (.aload_n 3, 1) := by decide +kernel
theorem dL_singles_97 : decode cL_singles 97 = .ok (.iload 12, 2) := by decide +kernel
theorem dL_singles_99 : decode cL_singles 99 = .ok (.iconst 2, 1) := by decide +kernel
theorem dL_singles_100 : decode cL_singles 100 = .ok (.iadd, 1) := by decide +kernel
theorem dL_singles_101 : decode cL_singles 101 = .ok (.iload 6, 2) := by decide +kernel
theorem dL_singles_103 : decode cL_singles 103 = .ok (.iastore, 1) := by decide +kernel
theorem dL_singles_104 : decode cL_singles 104 = .ok (.aload_n 3, 1) := by decide +kernel
theorem dL_singles_105 : decode cL_singles 105 = .ok (.iload 12, 2) := by decide +kernel
theorem dL_singles_107 : decode cL_singles 107 = .ok (.iconst 3, 1) := by decide +kernel
theorem dL_singles_108 : decode cL_singles 108 = .ok (.iadd, 1) := by decide +kernel
theorem dL_singles_109 : decode cL_singles 109 = .ok (.iload 7, 2) := by decide +kernel
theorem dL_singles_111 : decode cL_singles 111 = .ok (.iastore, 1) := by decide +kernel
theorem dL_singles_112 : decode cL_singles 112 = .ok (.aload_n 3, 1) := by decide +kernel
theorem dL_singles_113 : decode cL_singles 113 = .ok (.iload 12, 2) := by decide +kernel
theorem dL_singles_115 : decode cL_singles 115 = .ok (.iconst 4, 1) := by decide +kernel
theorem dL_singles_116 : decode cL_singles 116 = .ok (.iadd, 1) := by decide +kernel
theorem dL_singles_117 : decode cL_singles 117 = .ok (.iload 8, 2) := by decide +kernel
theorem dL_singles_119 : decode cL_singles 119 = .ok (.iastore, 1) := by decide +kernel
theorem dL_singles_120 : decode cL_singles 120 = .ok (.aload_n 3, 1) := by decide +kernel
theorem dL_singles_121 : decode cL_singles 121 = .ok (.iload 12, 2) := by decide +kernel
theorem dL_singles_123 : decode cL_singles 123 = .ok (.iconst 5, 1) := by decide +kernel
theorem dL_singles_124 : decode cL_singles 124 = .ok (.iadd, 1) := by decide +kernel
theorem dL_singles_125 : decode cL_singles 125 = .ok (.iload 9, 2) := by decide +kernel
theorem dL_singles_127 : decode cL_singles 127 = .ok (.iastore, 1) := by decide +kernel
theorem dL_singles_128 : decode cL_singles 128 = .ok (.aload_n 3, 1) := by decide +kernel
theorem dL_singles_129 : decode cL_singles 129 = .ok (.iload 12, 2) := by decide +kernel
theorem dL_singles_131 : decode cL_singles 131 = .ok (.bipush 6, 2) := by decide +kernel
theorem dL_singles_133 : decode cL_singles 133 = .ok (.iadd, 1) := by decide +kernel
theorem dL_singles_134 : decode cL_singles 134 = .ok (.aload_n 1, 1) := by decide +kernel
theorem dL_singles_135 : decode cL_singles 135 = .ok (.iload 4, 2) := by decide +kernel
theorem dL_singles_137 : decode cL_singles 137 = .ok (.iload 5, 2) := by decide +kernel
theorem dL_singles_139 : decode cL_singles 139 = .ok (.bipush 7, 2) := by decide +kernel
theorem dL_singles_141 : decode cL_singles 141 = .ok (.irem, 1) := by decide +kernel
theorem dL_singles_142 : decode cL_singles 142 = .ok (.iload 7, 2) := by decide +kernel
theorem dL_singles_144 : decode cL_singles 144 = .ok (.iload 6, 2) := by decide +kernel
theorem dL_singles_146 : decode cL_singles 146 = .ok (.isub, 1) := by decide +kernel
theorem dL_singles_147 : decode cL_singles 147 = .ok (.bipush 100, 2) := by decide +kernel
theorem dL_singles_149 : decode cL_singles 149 = .ok (.invokestatic 44, 3) := by decide +kernel
theorem dL_singles_152 : decode cL_singles 152 = .ok (.iastore, 1) := by decide +kernel
theorem dL_singles_153 : decode cL_singles 153 = .ok (.aload_n 1, 1) := by decide +kernel
theorem dL_singles_154 : decode cL_singles 154 = .ok (.bipush 8, 2) := by decide +kernel
theorem dL_singles_156 : decode cL_singles 156 = .ok (.dup2, 1) := by decide +kernel
theorem dL_singles_157 : decode cL_singles 157 = .ok (.iaload, 1) := by decide +kernel
theorem dL_singles_158 : decode cL_singles 158 = .ok (.aload_n 3, 1) := by decide +kernel
theorem dL_singles_159 : decode cL_singles 159 = .ok (.iload 12, 2) := by decide +kernel
theorem dL_singles_161 : decode cL_singles 161 = .ok (.bipush 6, 2) := by decide +kernel
theorem dL_singles_163 : decode cL_singles 163 = .ok (.iadd, 1) := by decide +kernel
theorem dL_singles_164 : decode cL_singles 164 = .ok (.iaload, 1) := by decide +kernel
theorem dL_singles_165 : decode cL_singles 165 = .ok (.iadd, 1) := by decide +kernel
theorem dL_singles_166 : decode cL_singles 166 = .ok (.iastore, 1) := by decide +kernel
theorem dL_singles_167 : decode cL_singles 167 = .ok (.aload_n 1, 1) := by decide +kernel
theorem dL_singles_168 : decode cL_singles 168 = .ok (.bipush 12, 2) := by decide +kernel
theorem dL_singles_170 : decode cL_singles 170 = .ok (.dup2, 1) := by decide +kernel
theorem dL_singles_171 : decode cL_singles 171 = .ok (.iaload, 1) := by decide +kernel
theorem dL_singles_172 : decode cL_singles 172 = .ok (.iconst 1, 1) := by decide +kernel
theorem dL_singles_173 : decode cL_singles 173 = .ok (.iadd, 1) := by decide +kernel
theorem dL_singles_174 : decode cL_singles 174 = .ok (.iastore, 1) := by decide +kernel
theorem dL_singles_175 : decode cL_singles 175 = .ok (.aload_n 0, 1) := by decide +kernel
theorem dL_singles_176 : decode cL_singles 176 = .ok (.iload 4, 2) := by decide +kernel
theorem dL_singles_178 : decode cL_singles 178 = .ok (.iload 5, 2) := by decide +kernel
theorem dL_singles_180 : decode cL_singles 180 = .ok (.iload 6, 2) := by decide +kernel
theorem dL_singles_182 : decode cL_singles 182 = .ok (.iload 7, 2) := by decide +kernel
theorem dL_singles_184 : decode cL_singles 184 = .ok (.iload 8, 2) := by decide +kernel
theorem dL_singles_186 : decode cL_singles 186 = .ok (.invokevirtual 34, 3) := by decide +kernel
theorem dL_singles_189 : decode cL_singles 189 = .ok (.ifCond .ne 28, 3) := by decide +kernel
theorem dL_singles_192 : decode cL_singles 192 = .ok (.aload_n 0, 1) := by decide +kernel
theorem dL_singles_193 : decode cL_singles 193 = .ok (.iload 4, 2) := by decide +kernel
theorem dL_singles_195 : decode cL_singles 195 = .ok (.iload 5, 2) := by decide +kernel
theorem dL_singles_197 : decode cL_singles 197 = .ok (.iload 6, 2) := by decide +kernel
theorem dL_singles_199 : decode cL_singles 199 = .ok (.iload 7, 2) := by decide +kernel
theorem dL_singles_201 : decode cL_singles 201 = .ok (.iload 8, 2) := by decide +kernel
theorem dL_singles_203 : decode cL_singles 203 = .ok (.iload 9, 2) := by decide +kernel
theorem dL_singles_205 : decode cL_singles 205 = .ok (.invokevirtual 47, 3) := by decide +kernel
theorem dL_singles_208 : decode cL_singles 208 = .ok (.iload 11, 2) := by decide +kernel
theorem dL_singles_210 : decode cL_singles 210 = .ok (.if_icmp .ne 7, 3) := by decide +kernel
theorem dL_singles_213 : decode cL_singles 213 = .ok (.iconst 1, 1) := by decide +kernel
theorem dL_singles_214 : decode cL_singles 214 = .ok (.goto 4, 3) := by decide +kernel
theorem dL_singles_217 : decode cL_singles 217 = .ok (.iconst 0, 1) := by decide +kernel
theorem dL_singles_218 : decode cL_singles 218 = .ok (.ireturn, 1) := by decide +kernel
theorem dL_regulars_0 : decode cL_regulars 0 = .ok (.iconst 0, 1) := by decide +kernel
theorem dL_regulars_1 : decode cL_regulars 1 = .ok (.istore 10, 2) := by decide +kernel
theorem dL_regulars_3 : decode cL_regulars 3 = .ok (.iconst 0, 1) := by decide +kernel
theorem dL_regulars_4 : decode cL_regulars 4 = .ok (.istore 11, 2) := by decide +kernel
theorem dL_regulars_6 : decode cL_regulars 6 = .ok (.aload_n 1, 1) := by decide +kernel
theorem dL_regulars_7 : decode cL_regulars 7 = .ok (.iconst 3, 1) := by decide +kernel
theorem dL_regulars_8 : decode cL_regulars 8 = .ok (.iaload, 1) := by decide +kernel
theorem dL_regulars_9 : decode cL_regulars 9 = .ok (.istore 12, 2) := by decide +kernel
theorem dL_regulars_11 : decode cL_regulars 11 = .ok (.iload 12, 2) := by decide +kernel
theorem dL_regulars_13 : decode cL_regulars 13 = .ok (.aload_n 1, 1) := by decide +kernel
theorem dL_regulars_14 : decode cL_regulars 14 = .ok (.iconst 4, 1) := by decide +kernel
theorem dL_regulars_15 : decode cL_regulars 15 = .ok (.iaload, 1) := by decide +kernel
theorem dL_regulars_16 : decode cL_regulars 16 = .ok (.if_icmp .gt 74, 3) := by decide +kernel
theorem dL_regulars_19 : decode cL_regulars 19 = .ok (.aload_n 1, 1) := by decide +kernel
theorem dL_regulars_20 : decode cL_regulars 20 = .ok (.aload_n 2, 1) := by decide +kernel
theorem dL_regulars_21 : decode cL_regulars 21 = .ok (.aload_n 3, 1) := by decide +kernel
theorem dL_regulars_22 : decode cL_regulars 22 = .ok (.iload 4, 2) := by decide +kernel
theorem dL_regulars_24 : decode cL_regulars 24 = .ok (.bipush 7, 2) := by decide +kernel
theorem dL_regulars_26 : decode cL_regulars 26 = .ok (.iload 12, 2) := by decide +kernel
theorem dL_regulars_28 : decode cL_regulars 28 = .ok (.imul, 1) := by decide +kernel
theorem dL_regulars_29 : decode cL_regulars 29 = .ok (.iload 5, 2) := by decide +kernel
theorem dL_regulars_31 : decode cL_regulars 31 = .ok (.iadd, 1) := by decide +kernel
theorem dL_regulars_32 : decode cL_regulars 32 = .ok (.iload 6, 2) := by decide +kernel
theorem dL_regulars_34 : decode cL_regulars 34 = .ok (.iload 7, 2) := by decide +kernel
theorem dL_regulars_36 : decode cL_regulars 36 = .ok (.iload 8, 2) := by decide +kernel
theorem dL_regulars_38 : decode cL_regulars 38 = .ok (.invokestatic 30, 3) := by decide +kernel
theorem dL_regulars_41 : decode cL_regulars 41 = .ok (.ifCond .ne 7, 3) := by decide +kernel
theorem dL_regulars_44 : decode cL_regulars 44 = .ok (.iconst 1, 1) := by decide +kernel
theorem dL_regulars_45 : decode cL_regulars 45 = .ok (.goto 4, 3) := by decide +kernel
theorem dL_regulars_48 : decode cL_regulars 48 = .ok (.iconst 0, 1) := by decide +kernel
theorem dL_regulars_49 : decode cL_regulars 49 = .ok (.istore 13, 2) := by decide +kernel
theorem dL_regulars_51 : decode cL_regulars 51 = .ok (.iload 10, 2) := by decide +kernel
theorem dL_regulars_53 : decode cL_regulars 53 = .ok (.iload 13, 2) := by decide +kernel
theorem dL_regulars_55 : decode cL_regulars 55 = .ok (.ifCond .eq 10, 3) := by decide +kernel
theorem dL_regulars_58 : decode cL_regulars 58 = .ok (.iconst 1, 1) := by decide +kernel
theorem dL_regulars_59 : decode cL_regulars 59 = .ok (.iload 12, 2) := by decide +kernel
theorem dL_regulars_61 : decode cL_regulars 61 = .ok (.ishl, 1) := by decide +kernel
theorem dL_regulars_62 : decode cL_regulars 62 = .ok (.goto 4, 3) := by decide +kernel
theorem dL_regulars_65 : decode cL_regulars 65 = .ok (.iconst 0, 1) := by decide +kernel
theorem dL_regulars_66 : decode cL_regulars 66 = .ok (.ior, 1) := by decide +kernel
theorem dL_regulars_67 : decode cL_regulars 67 = .ok (.istore 10, 2) := by decide +kernel
theorem dL_regulars_69 : decode cL_regulars 69 = .ok (.iload 11, 2) := by decide +kernel
theorem dL_regulars_71 : decode cL_regulars 71 = .ok (.iload 13, 2) := by decide +kernel
theorem dL_regulars_73 : decode cL_regulars 73 = .ok (.ifCond .eq 7, 3) := by decide +kernel
theorem dL_regulars_76 : decode cL_regulars 76 = .ok (.iconst 1, 1) := by decide +kernel
theorem dL_regulars_77 : decode cL_regulars 77 = .ok (.goto 4, 3) := by decide +kernel
theorem dL_regulars_80 : decode cL_regulars 80 = .ok (.iconst 0, 1) := by decide +kernel
theorem dL_regulars_81 : decode cL_regulars 81 = .ok (.iadd, 1) := by decide +kernel
theorem dL_regulars_82 : decode cL_regulars 82 = .ok (.istore 11, 2) := by decide +kernel
theorem dL_regulars_84 : decode cL_regulars 84 = .ok (.iinc 12 1, 3) := by decide +kernel
theorem dL_regulars_87 : decode cL_regulars 87 = .ok (.goto (-76), 3) := by decide +kernel
theorem dL_regulars_90 : decode cL_regulars 90 = .ok (.iload 11, 2) := by decide +kernel
theorem dL_regulars_92 : decode cL_regulars 92 = .ok (.ifCond .eq 11, 3) := by decide +kernel
theorem dL_regulars_95 : decode cL_regulars 95 = .ok (.aload_n 1, 1) := by decide +kernel
theorem dL_regulars_96 : decode cL_regulars 96 = .ok (.bipush 11, 2) := by decide +kernel
theorem dL_regulars_98 : decode cL_regulars 98 = .ok (.iaload, 1) := by decide +kernel
theorem dL_regulars_99 : decode cL_regulars 99 = .ok (.iconst 4, 1) := by decide +kernel
theorem dL_regulars_100 : decode cL_regulars 100 = .ok (.if_icmp .ne 21, 3) := by decide +kernel
theorem dL_regulars_103 : decode cL_regulars 103 = .ok (.aload_n 0, 1) := by decide +kernel
theorem dL_regulars_104 : decode cL_regulars 104 = .ok (.iconst 0, 1) := by decide +kernel
theorem dL_regulars_105 : decode cL_regulars 105 = .ok (.invokevirtual 51, 3) := by decide +kernel
theorem dL_regulars_108 : decode cL_regulars 108 = .ok (.aload_n 1, 1) := by decide +kernel
theorem dL_regulars_109 : decode cL_regulars 109 = .ok (.bipush 11, 2) := by decide +kernel
theorem dL_regulars_111 : decode cL_regulars 111 = .ok (.iaload, 1) := by decide +kernel
theorem dL_regulars_112 : decode cL_regulars 112 = .ok (.if_icmp .ne 7, 3) := by decide +kernel
theorem dL_regulars_115 : decode cL_regulars 115 = .ok (.iconst 1, 1) := by decide +kernel
theorem dL_regulars_116 : decode cL_regulars 116 = .ok (.goto 4, 3) := by decide +kernel
theorem dL_regulars_119 : decode cL_regulars 119 = .ok (.iconst 0, 1) := by decide +kernel
theorem dL_regulars_120 : decode cL_regulars 120 = .ok (.ireturn, 1) := by decide +kernel
theorem dL_regulars_121 : decode cL_regulars 121 = .ok (.iconst 0, 1) := by decide +kernel
theorem dL_regulars_122 : decode cL_regulars 122 = .ok (.istore 12, 2) := by decide +kernel
theorem dL_regulars_124 : decode cL_regulars 124 = .ok (.iload 12, 2) := by decide +kernel
theorem dL_regulars_126 : decode cL_regulars 126 = .ok (.bipush 12, 2) := by decide +kernel
theorem dL_regulars_128 : decode cL_regulars 128 = .ok (.if_icmp .ge 46, 3) := by decide +kernel
theorem dL_regulars_131 : decode cL_regulars 131 = .ok (.iload 10, 2) := by decide +kernel
theorem dL_regulars_133 : decode cL_regulars 133 = .ok (.iload 12, 2) := by decide +kernel
theorem dL_regulars_135 : decode cL_regulars 135 = .ok (.ishr, 1) := by decide +kernel
theorem dL_regulars_136 : decode cL_regulars 136 = .ok (.iconst 1, 1) := by decide +kernel
theorem dL_regulars_137 : decode cL_regulars 137 = .ok (.iand, 1) := by decide +kernel
theorem dL_regulars_138 : decode cL_regulars 138 = .ok (.iconst 1, 1) := by decide +kernel
theorem dL_regulars_139 : decode cL_regulars 139 = .ok (.if_icmp .ne 26, 3) := by decide +kernel
theorem dL_regulars_142 : decode cL_regulars 142 = .ok (.aload_n 1, 1) := by decide +kernel
theorem dL_regulars_143 : decode cL_regulars 143 = .ok (.aload_n 2, 1) := by decide +kernel
theorem dL_regulars_144 : decode cL_regulars 144 = .ok (.aload_n 3, 1) := by decide +kernel
theorem dL_regulars_145 : decode cL_regulars 145 = .ok (.iload 4, 2) := by decide +kernel
theorem dL_regulars_147 : decode cL_regulars 147 = .ok (.bipush 7, 2) := by decide +kernel
theorem dL_regulars_149 : decode cL_regulars 149 = .ok (.iload 12, 2) := by decide +kernel
theorem dL_regulars_151 : decode cL_regulars 151 = .ok (.imul, 1) := by decide +kernel
theorem dL_regulars_152 : decode cL_regulars 152 = .ok (.iload 5, 2) := by decide +kernel
theorem dL_regulars_154 : decode cL_regulars 154 = .ok (.iadd, 1) := by decide +kernel
theorem dL_regulars_155 : decode cL_regulars 155 = .ok (.iload 6, 2) := by decide +kernel
theorem dL_regulars_157 : decode cL_regulars 157 = .ok (.iload 7, 2) := by decide +kernel
theorem dL_regulars_159 : decode cL_regulars 159 = .ok (.invokestatic 40, 3) := by decide +kernel
theorem dL_regulars_162 : decode cL_regulars 162 = .ok (.goto 4, 3) := by decide +kernel
theorem dL_regulars_165 : decode cL_regulars 165 = .ok (.iconst 0, 1) := by decide +kernel
theorem dL_regulars_166 : decode cL_regulars 166 = .ok (.istore 13, 2) := by decide +kernel
theorem dL_regulars_168 : decode cL_regulars 168 = .ok (.iinc 12 1, 3) := by decide +kernel
theorem dL_regulars_171 : decode cL_regulars 171 = .ok (.goto (-47), 3) := by decide +kernel
theorem dL_regulars_174 : decode cL_regulars 174 = .ok (.bipush 11, 2) := by decide +kernel
theorem dL_regulars_176 : decode cL_regulars 176 = .ok (.aload_n 1, 1) := by decide +kernel
theorem dL_regulars_177 : decode cL_regulars 177 = .ok (.bipush 11, 2) := by decide +kernel
theorem dL_regulars_179 : decode cL_regulars 179 = .ok (.iaload, 1) := by decide +kernel
theorem dL_regulars_180 : decode cL_regulars 180 = .ok (.imul, 1) := by decide +kernel
theorem dL_regulars_181 : decode cL_regulars 181 = .ok (.istore 12, 2) := by decide +kernel
theorem dL_regulars_183 : decode cL_regulars 183 = .ok (.aload_n 2, 1) := by decide +kernel
theorem dL_regulars_184 : decode cL_regulars 184 = .ok (.iload 12, 2) := by decide +kernel
theorem dL_regulars_186 : decode cL_regulars 186 = .ok (.iload 4, 2) := by decide +kernel
theorem dL_regulars_188 : decode cL_regulars 188 = .ok (.iastore, 1) := by decide +kernel
theorem dL_regulars_189 : decode cL_regulars 189 = .ok (.aload_n 2, 1) := by decide +kernel
theorem dL_regulars_190 : decode cL_regulars 190 = .ok (.iload 12, 2) := by decide +kernel
theorem dL_regulars_192 : decode cL_regulars 192 = .ok (.iconst 1, 1) := by decide +kernel
theorem dL_regulars_193 : decode cL_regulars 193 = .ok (.iadd, 1) := by decide +kernel
theorem dL_regulars_194 : decode cL_regulars 194 = .ok (.iload 5, 2) := by decide +kernel
theorem dL_regulars_196 : decode cL_regulars 196 = .ok (.iastore, 1) := by decide +kernel
theorem dL_regulars_197 : decode cL_regulars 197 = .ok (.aload_n 2, 1) := by decide +kernel
theorem dL_regulars_198 : decode cL_regulars 198 = .ok (.iload 12, 2) := by decide +kernel
theorem dL_regulars_200 : decode cL_regulars 200 = .ok (.iconst 2, 1) := by decide +kernel
theorem dL_regulars_201 : decode cL_regulars 201 = .ok (.iadd, 1) := by decide +kernel
theorem dL_regulars_202 : decode cL_regulars 202 = .ok (.iload 6, 2) := by decide +kernel
theorem dL_regulars_204 : decode cL_regulars 204 = .ok (.iastore, 1) := by decide +kernel
theorem dL_regulars_205 : decode cL_regulars 205 = .ok (.aload_n 2, 1) := by decide +kernel
theorem dL_regulars_206 : decode cL_regulars 206 = .ok (.iload 12, 2) := by decide +kernel
theorem dL_regulars_208 : decode cL_regulars 208 = .ok (.iconst 3, 1) := by decide +kernel
theorem dL_regulars_209 : decode cL_regulars 209 = .ok (.iadd, 1) := by decide +kernel
theorem dL_regulars_210 : decode cL_regulars 210 = .ok (.iload 7, 2) := by decide +kernel
theorem dL_regulars_212 : decode cL_regulars 212 = .ok (.iastore, 1) := by decide +kernel
theorem dL_regulars_213 : decode cL_regulars 213 = .ok (.aload_n 2, 1) := by decide +kernel
theorem dL_regulars_214 : decode cL_regulars 214 = .ok (.iload 12, 2) := by decide +kernel
theorem dL_regulars_216 : decode cL_regulars 216 = .ok (.iconst 4, 1) := by decide +kernel
theorem dL_regulars_217 : decode cL_regulars 217 = .ok (.iadd, 1) := by decide +kernel
theorem dL_regulars_218 : decode cL_regulars 218 = .ok (.iload 8, 2) := by decide +kernel
theorem dL_regulars_220 : decode cL_regulars 220 = .ok (.iastore, 1) := by decide +kernel
theorem dL_regulars_221 : decode cL_regulars 221 = .ok (.aload_n 2, 1) := by decide +kernel
theorem dL_regulars_222 : decode cL_regulars 222 = .ok (.iload 12, 2) := by decide +kernel
theorem dL_regulars_224 : decode cL_regulars 224 = .ok (.iconst 5, 1) := by decide +kernel
theorem dL_regulars_225 : decode cL_regulars 225 = .ok (.iadd, 1) := by decide +kernel
theorem dL_regulars_226 : decode cL_regulars 226 = .ok (.iload 9, 2) := by decide +kernel
theorem dL_regulars_228 : decode cL_regulars 228 = .ok (.iastore, 1) := by decide +kernel
theorem dL_regulars_229 : decode cL_regulars 229 = .ok (.aload_n 2, 1) := by decide +kernel
theorem dL_regulars_230 : decode cL_regulars 230 = .ok (.iload 12, 2) := by decide +kernel
theorem dL_regulars_232 : decode cL_regulars 232 = .ok (.bipush 6, 2) := by decide +kernel
theorem dL_regulars_234 : decode cL_regulars 234 = .ok (.iadd, 1) := by decide +kernel
theorem dL_regulars_235 : decode cL_regulars 235 = .ok (.aload_n 1, 1) := by decide +kernel
theorem dL_regulars_236 : decode cL_regulars 236 = .ok (.iload 4, 2) := by decide +kernel
theorem dL_regulars_238 : decode cL_regulars 238 = .ok (.iload 5, 2) := by decide +kernel
theorem dL_regulars_240 : decode cL_regulars 240 = .ok (.iload 7, 2) := by decide +kernel
theorem dL_regulars_242 : decode cL_regulars 242 = .ok (.iload 6, 2) := by decide +kernel
theorem dL_regulars_244 : decode cL_regulars 244 = .ok (.isub, 1) := by decide +kernel
theorem dL_regulars_245 : decode cL_regulars 245 = .ok (.bipush 100, 2) := by decide +kernel
theorem dL_regulars_247 : decode cL_regulars 247 = .ok (.aload_n 1, 1) := by decide +kernel
theorem dL_regulars_248 : decode cL_regulars 248 = .ok (.iconst 1, 1) := by decide +kernel
theorem dL_regulars_249 : decode cL_regulars 249 = .ok (.iaload, 1) := by decide +kernel
theorem dL_regulars_250 : decode cL_regulars 250 = .ok (.isub, 1) := by decide +kernel
theorem dL_regulars_251 : decode cL_regulars 251 = .ok (.invokestatic 44, 3) := by decide +kernel
theorem dL_regulars_254 : decode cL_regulars 254 = .ok (.iastore, 1) := by decide +kernel
theorem dL_regulars_255 : decode cL_regulars 255 = .ok (.aload_n 2, 1) := by decide +kernel
theorem dL_regulars_256 : decode cL_regulars 256 = .ok (.iload 12, 2) := by decide +kernel
theorem dL_regulars_258 : decode cL_regulars 258 = .ok (.bipush 7, 2) := by decide +kernel
theorem dL_regulars_260 : decode cL_regulars 260 = .ok (.iadd, 1) := by decide +kernel
theorem dL_regulars_261 : decode cL_regulars 261 = .ok (.aload_n 1, 1) := by decide +kernel
theorem dL_regulars_262 : decode cL_regulars 262 = .ok (.iconst 3, 1) := by decide +kernel
theorem dL_regulars_263 : decode cL_regulars 263 = .ok (.iaload, 1) := by decide +kernel
theorem dL_regulars_264 : decode cL_regulars 264 = .ok (.iastore, 1) := by decide +kernel
theorem dL_regulars_265 : decode cL_regulars 265 = .ok (.aload_n 2, 1) := by decide +kernel
theorem dL_regulars_266 : decode cL_regulars 266 = .ok (.iload 12, 2) := by decide +kernel
theorem dL_regulars_268 : decode cL_regulars 268 = .ok (.bipush 8, 2) := by decide +kernel
theorem dL_regulars_270 : decode cL_regulars 270 = .ok (.iadd, 1) := by decide +kernel
theorem dL_regulars_271 : decode cL_regulars 271 = .ok (.aload_n 1, 1) := by decide +kernel
theorem dL_regulars_272 : decode cL_regulars 272 = .ok (.iconst 4, 1) := by decide +kernel
theorem dL_regulars_273 : decode cL_regulars 273 = .ok (.iaload, 1) := by decide +kernel
theorem dL_regulars_274 : decode cL_regulars 274 = .ok (.iastore, 1) := by decide +kernel
theorem dL_regulars_275 : decode cL_regulars 275 = .ok (.aload_n 2, 1) := by decide +kernel
theorem dL_regulars_276 : decode cL_regulars 276 = .ok (.iload 12, 2) := by decide +kernel
theorem dL_regulars_278 : decode cL_regulars 278 = .ok (.bipush 9, 2) := by decide +kernel
theorem dL_regulars_280 : decode cL_regulars 280 = .ok (.iadd, 1) := by decide +kernel
theorem dL_regulars_281 : decode cL_regulars 281 = .ok (.iload 10, 2) := by decide +kernel
theorem dL_regulars_283 : decode cL_regulars 283 = .ok (.iastore, 1) := by decide +kernel
theorem dL_regulars_284 : decode cL_regulars 284 = .ok (.aload_n 1, 1) := by decide +kernel
theorem dL_regulars_285 : decode cL_regulars 285 = .ok (.bipush 8, 2) := by decide +kernel
theorem dL_regulars_287 : decode cL_regulars 287 = .ok (.dup2, 1) := by decide +kernel
theorem dL_regulars_288 : decode cL_regulars 288 = .ok (.iaload, 1) := by decide +kernel
theorem dL_regulars_289 : decode cL_regulars 289 = .ok (.iload 11, 2) := by decide +kernel
theorem dL_regulars_291 : decode cL_regulars 291 = .ok (.aload_n 2, 1) := by decide +kernel
theorem dL_regulars_292 : decode cL_regulars 292 = .ok (.iload 12, 2) := by decide +kernel
theorem dL_regulars_294 : decode cL_regulars 294 = .ok (.bipush 6, 2) := by decide +kernel
theorem dL_regulars_296 : decode cL_regulars 296 = .ok (.iadd, 1) := by decide +kernel
theorem dL_regulars_297 : decode cL_regulars 297 = .ok (.iaload, 1) := by decide +kernel
theorem dL_regulars_298 : decode cL_regulars 298 = .ok (.imul, 1) := by decide +kernel
theorem dL_regulars_299 : decode cL_regulars 299 = .ok (.iadd, 1) := by decide +kernel
theorem dL_regulars_300 : decode cL_regulars 300 = .ok (.iastore, 1) := by decide +kernel
theorem dL_regulars_301 : decode cL_regulars 301 = .ok (.aload_n 1, 1) := by decide +kernel
theorem dL_regulars_302 : decode cL_regulars 302 = .ok (.bipush 11, 2) := by decide +kernel
theorem dL_regulars_304 : decode cL_regulars 304 = .ok (.dup2, 1) := by decide +kernel
theorem dL_regulars_305 : decode cL_regulars 305 = .ok (.iaload, 1) := by decide +kernel
theorem dL_regulars_306 : decode cL_regulars 306 = .ok (.iconst 1, 1) := by decide +kernel
theorem dL_regulars_307 : decode cL_regulars 307 = .ok (.iadd, 1) := by decide +kernel
theorem dL_regulars_308 : decode cL_regulars 308 = .ok (.iastore, 1) := by decide +kernel
theorem dL_regulars_309 : decode cL_regulars 309 = .ok (.aload_n 0, 1) := by decide +kernel
theorem dL_regulars_310 : decode cL_regulars 310 = .ok (.iload 4, 2) := by decide +kernel
theorem dL_regulars_312 : decode cL_regulars 312 = .ok (.iload 5, 2) := by decide +kernel
theorem dL_regulars_314 : decode cL_regulars 314 = .ok (.iload 6, 2) := by decide +kernel
theorem dL_regulars_316 : decode cL_regulars 316 = .ok (.iload 7, 2) := by decide +kernel
theorem dL_regulars_318 : decode cL_regulars 318 = .ok (.iload 8, 2) := by decide +kernel
theorem dL_regulars_320 : decode cL_regulars 320 = .ok (.iload 9, 2) := by decide +kernel
theorem dL_regulars_322 : decode cL_regulars 322 = .ok (.invokevirtual 55, 3) := by decide +kernel
theorem dL_regulars_325 : decode cL_regulars 325 = .ok (.iload 11, 2) := by decide +kernel
theorem dL_regulars_327 : decode cL_regulars 327 = .ok (.if_icmp .ne 7, 3) := by decide +kernel
theorem dL_regulars_330 : decode cL_regulars 330 = .ok (.iconst 1, 1) := by decide +kernel
theorem dL_regulars_331 : decode cL_regulars 331 = .ok (.goto 4, 3) := by decide +kernel
theorem dL_regulars_334 : decode cL_regulars 334 = .ok (.iconst 0, 1) := by decide +kernel
theorem dL_regulars_335 : decode cL_regulars 335 = .ok (.ireturn, 1) := by decide +kernel
theorem dL_ones_0 : decode cL_ones 0 = .ok (.iconst 0, 1) := by decide +kernel
theorem dL_ones_1 : decode cL_ones 1 = .ok (.istore_n 1, 1) := by decide +kernel
theorem dL_ones_2 : decode cL_ones 2 = .ok (.iconst 0, 1) := by decide +kernel
theorem dL_ones_3 : decode cL_ones 3 = .ok (.istore_n 2, 1) := by decide +kernel
theorem dL_ones_4 : decode cL_ones 4 = .ok (.iload_n 2, 1) := by decide +kernel
theorem dL_ones_5 : decode cL_ones 5 = .ok (.bipush 12, 2) := by decide +kernel
theorem dL_ones_7 : decode cL_ones 7 = .ok (.if_icmp .ge 17, 3) := by decide +kernel
theorem dL_ones_10 : decode cL_ones 10 = .ok (.iload_n 1, 1) := by decide +kernel
theorem dL_ones_11 : decode cL_ones 11 = .ok (.iload_n 0, 1) := by decide +kernel
theorem dL_ones_12 : decode cL_ones 12 = .ok (.iload_n 2, 1) := by decide +kernel
theorem dL_ones_13 : decode cL_ones 13 = .ok (.ishr, 1) := by decide +kernel
theorem dL_ones_14 : decode cL_ones 14 = .ok (.iconst 1, 1) := by decide +kernel
theorem dL_ones_15 : decode cL_ones 15 = .ok (.iand, 1) := by decide +kernel
theorem dL_ones_16 : decode cL_ones 16 = .ok (.iadd, 1) := by decide +kernel
theorem dL_ones_17 : decode cL_ones 17 = .ok (.istore_n 1, 1) := by decide +kernel
theorem dL_ones_18 : decode cL_ones 18 = .ok (.iinc 2 1, 3) := by decide +kernel
theorem dL_ones_21 : decode cL_ones 21 = .ok (.goto (-17), 3) := by decide +kernel
theorem dL_ones_24 : decode cL_ones 24 = .ok (.iload_n 1, 1) := by decide +kernel
theorem dL_ones_25 : decode cL_ones 25 = .ok (.ireturn, 1) := by decide +kernel
theorem dL_cancels_0 : decode cL_cancels 0 = .ok (.iload 4, 2) := by decide +kernel
theorem dL_cancels_2 : decode cL_cancels 2 = .ok (.ifCond .eq 10, 3) := by decide +kernel
theorem dL_cancels_5 : decode cL_cancels 5 = .ok (.aload_n 1, 1) := by decide +kernel
theorem dL_cancels_6 : decode cL_cancels 6 = .ok (.bipush 11, 2) := by decide +kernel
theorem dL_cancels_8 : decode cL_cancels 8 = .ok (.iaload, 1) := by decide +kernel
theorem dL_cancels_9 : decode cL_cancels 9 = .ok (.goto 7, 3) := by decide +kernel
theorem dL_cancels_12 : decode cL_cancels 12 = .ok (.aload_n 1, 1) := by decide +kernel
theorem dL_cancels_13 : decode cL_cancels 13 = .ok (.bipush 12, 2) := by decide +kernel
theorem dL_cancels_15 : decode cL_cancels 15 = .ok (.iaload, 1) := by decide +kernel
theorem dL_cancels_16 : decode cL_cancels 16 = .ok (.istore 6, 2) := by decide +kernel
theorem dL_cancels_18 : decode cL_cancels 18 = .ok (.iload 6, 2) := by decide +kernel
theorem dL_cancels_20 : decode cL_cancels 20 = .ok (.ifCond .ne 5, 3) := by decide +kernel
theorem dL_cancels_23 : decode cL_cancels 23 = .ok (.iconst 1, 1) := by decide +kernel
theorem dL_cancels_24 : decode cL_cancels 24 = .ok (.ireturn, 1) := by decide +kernel
theorem dL_cancels_25 : decode cL_cancels 25 = .ok (.iload 5, 2) := by decide +kernel
theorem dL_cancels_27 : decode cL_cancels 27 = .ok (.iload 6, 2) := by decide +kernel
theorem dL_cancels_29 : decode cL_cancels 29 = .ok (.invokestatic 58, 3) := by decide +kernel
theorem dL_cancels_32 : decode cL_cancels 32 = .ok (.istore 7, 2) := by decide +kernel
theorem dL_cancels_34 : decode cL_cancels 34 = .ok (.iload 4, 2) := by decide +kernel
theorem dL_cancels_36 : decode cL_cancels 36 = .ok (.ifCond .eq 30, 3) := by decide +kernel
theorem dL_cancels_39 : decode cL_cancels 39 = .ok (.aload_n 2, 1) := by decide +kernel
theorem dL_cancels_40 : decode cL_cancels 40 = .ok (.bipush 11, 2) := by decide +kernel
theorem dL_cancels_42 : decode cL_cancels 42 = .ok (.iload 7, 2) := by decide +kernel
theorem dL_cancels_44 : decode cL_cancels 44 = .ok (.imul, 1) := by decide +kernel
theorem dL_cancels_45 : decode cL_cancels 45 = .ok (.bipush 9, 2) := by decide +kernel
theorem dL_cancels_47 : decode cL_cancels 47 = .ok (.iadd, 1) := by decide +kernel
theorem dL_cancels_48 : decode cL_cancels 48 = .ok (.iaload, 1) := by decide +kernel
theorem dL_cancels_49 : decode cL_cancels 49 = .ok (.invokestatic 62, 3) := by decide +kernel
theorem dL_cancels_52 : decode cL_cancels 52 = .ok (.aload_n 2, 1) := by decide +kernel
theorem dL_cancels_53 : decode cL_cancels 53 = .ok (.bipush 11, 2) := by decide +kernel
theorem dL_cancels_55 : decode cL_cancels 55 = .ok (.iload 7, 2) := by decide +kernel
theorem dL_cancels_57 : decode cL_cancels 57 = .ok (.imul, 1) := by decide +kernel
theorem dL_cancels_58 : decode cL_cancels 58 = .ok (.bipush 6, 2) := by decide +kernel
theorem dL_cancels_60 : decode cL_cancels 60 = .ok (.iadd, 1) := by decide +kernel
theorem dL_cancels_61 : decode cL_cancels 61 = .ok (.iaload, 1) := by decide +kernel
theorem dL_cancels_62 : decode cL_cancels 62 = .ok (.imul, 1) := by decide +kernel
theorem dL_cancels_63 : decode cL_cancels 63 = .ok (.goto 13, 3) := by decide +kernel
theorem dL_cancels_66 : decode cL_cancels 66 = .ok (.aload_n 3, 1) := by decide +kernel
theorem dL_cancels_67 : decode cL_cancels 67 = .ok (.bipush 7, 2) := by decide +kernel
theorem dL_cancels_69 : decode cL_cancels 69 = .ok (.iload 7, 2) := by decide +kernel
theorem dL_cancels_71 : decode cL_cancels 71 = .ok (.imul, 1) := by decide +kernel
theorem dL_cancels_72 : decode cL_cancels 72 = .ok (.bipush 6, 2) := by decide +kernel
theorem dL_cancels_74 : decode cL_cancels 74 = .ok (.iadd, 1) := by decide +kernel
theorem dL_cancels_75 : decode cL_cancels 75 = .ok (.iaload, 1) := by decide +kernel
theorem dL_cancels_76 : decode cL_cancels 76 = .ok (.istore 8, 2) := by decide +kernel
theorem dL_cancels_78 : decode cL_cancels 78 = .ok (.aload_n 1, 1) := by decide +kernel
theorem dL_cancels_79 : decode cL_cancels 79 = .ok (.bipush 9, 2) := by decide +kernel
theorem dL_cancels_81 : decode cL_cancels 81 = .ok (.dup2, 1) := by decide +kernel
theorem dL_cancels_82 : decode cL_cancels 82 = .ok (.iaload, 1) := by decide +kernel
theorem dL_cancels_83 : decode cL_cancels 83 = .ok (.iload 8, 2) := by decide +kernel
theorem dL_cancels_85 : decode cL_cancels 85 = .ok (.iadd, 1) := by decide +kernel
theorem dL_cancels_86 : decode cL_cancels 86 = .ok (.iastore, 1) := by decide +kernel
theorem dL_cancels_87 : decode cL_cancels 87 = .ok (.iload 4, 2) := by decide +kernel
theorem dL_cancels_89 : decode cL_cancels 89 = .ok (.ifCond .eq 50, 3) := by decide +kernel
theorem dL_cancels_92 : decode cL_cancels 92 = .ok (.aload_n 1, 1) := by decide +kernel
theorem dL_cancels_93 : decode cL_cancels 93 = .ok (.bipush 11, 2) := by decide +kernel
theorem dL_cancels_95 : decode cL_cancels 95 = .ok (.dup2, 1) := by decide +kernel
theorem dL_cancels_96 : decode cL_cancels 96 = .ok (.iaload, 1) := by decide +kernel
theorem dL_cancels_97 : decode cL_cancels 97 = .ok (.iconst 1, 1) := by decide +kernel
theorem dL_cancels_98 : decode cL_cancels 98 = .ok (.isub, 1) := by decide +kernel
theorem dL_cancels_99 : decode cL_cancels 99 = .ok (.iastore, 1) := by decide +kernel
theorem dL_cancels_100 : decode cL_cancels 100 = .ok (.bipush 11, 2) := by decide +kernel
theorem dL_cancels_102 : decode cL_cancels 102 = .ok (.iload 7, 2) := by decide +kernel
theorem dL_cancels_104 : decode cL_cancels 104 = .ok (.imul, 1) := by decide +kernel
theorem dL_cancels_105 : decode cL_cancels 105 = .ok (.istore 9, 2) := by decide +kernel
theorem dL_cancels_107 : decode cL_cancels 107 = .ok (.iload 9, 2) := by decide +kernel
theorem dL_cancels_109 : decode cL_cancels 109 = .ok (.bipush 11, 2) := by decide +kernel
theorem dL_cancels_111 : decode cL_cancels 111 = .ok (.aload_n 1, 1) := by decide +kernel
theorem dL_cancels_112 : decode cL_cancels 112 = .ok (.bipush 11, 2) := by decide +kernel
theorem dL_cancels_114 : decode cL_cancels 114 = .ok (.iaload, 1) := by decide +kernel
theorem dL_cancels_115 : decode cL_cancels 115 = .ok (.imul, 1) := by decide +kernel
theorem dL_cancels_116 : decode cL_cancels 116 = .ok (.if_icmp .ge 20, 3) := by decide +kernel
theorem dL_cancels_119 : decode cL_cancels 119 = .ok (.aload_n 2, 1) := by decide +kernel
theorem dL_cancels_120 : decode cL_cancels 120 = .ok (.iload 9, 2) := by decide +kernel
theorem dL_cancels_122 : decode cL_cancels 122 = .ok (.aload_n 2, 1) := by decide +kernel
theorem dL_cancels_123 : decode cL_cancels 123 = .ok (.iload 9, 2) := by decide +kernel
theorem dL_cancels_125 : decode cL_cancels 125 = .ok (.bipush 11, 2) := by decide +kernel
theorem dL_cancels_127 : decode cL_cancels 127 = .ok (.iadd, 1) := by decide +kernel
theorem dL_cancels_128 : decode cL_cancels 128 = .ok (.iaload, 1) := by decide +kernel
theorem dL_cancels_129 : decode cL_cancels 129 = .ok (.iastore, 1) := by decide +kernel
theorem dL_cancels_130 : decode cL_cancels 130 = .ok (.iinc 9 1, 3) := by decide +kernel
theorem dL_cancels_133 : decode cL_cancels 133 = .ok (.goto (-26), 3) := by decide +kernel
theorem dL_cancels_136 : decode cL_cancels 136 = .ok (.goto 10, 3) := by decide +kernel
theorem dL_cancels_139 : decode cL_cancels 139 = .ok (.aload_n 1, 1) := by decide +kernel
theorem dL_cancels_140 : decode cL_cancels 140 = .ok (.aload_n 3, 1) := by decide +kernel
theorem dL_cancels_141 : decode cL_cancels 141 = .ok (.iload 7, 2) := by decide +kernel
theorem dL_cancels_143 : decode cL_cancels 143 = .ok (.invokestatic 26, 3) := by decide +kernel
theorem dL_cancels_146 : decode cL_cancels 146 = .ok (.aload_n 0, 1) := by decide +kernel
theorem dL_cancels_147 : decode cL_cancels 147 = .ok (.iload 4, 2) := by decide +kernel
theorem dL_cancels_149 : decode cL_cancels 149 = .ok (.iload 7, 2) := by decide +kernel
theorem dL_cancels_151 : decode cL_cancels 151 = .ok (.invokevirtual 65, 3) := by decide +kernel
theorem dL_cancels_154 : decode cL_cancels 154 = .ok (.iload 8, 2) := by decide +kernel
theorem dL_cancels_156 : decode cL_cancels 156 = .ok (.if_icmp .ne 7, 3) := by decide +kernel
theorem dL_cancels_159 : decode cL_cancels 159 = .ok (.iconst 1, 1) := by decide +kernel
theorem dL_cancels_160 : decode cL_cancels 160 = .ok (.goto 4, 3) := by decide +kernel
theorem dL_cancels_163 : decode cL_cancels 163 = .ok (.iconst 0, 1) := by decide +kernel
theorem dL_cancels_164 : decode cL_cancels 164 = .ok (.ireturn, 1) := by decide +kernel
theorem dL_isGood_0 : decode cL_isGood 0 = .ok (.bipush 24, 2) := by decide +kernel
theorem dL_isGood_2 : decode cL_isGood 2 = .ok (.newarray .int, 2) := by decide +kernel
theorem dL_isGood_4 : decode cL_isGood 4 = .ok (.astore 4, 2) := by decide +kernel
theorem dL_isGood_6 : decode cL_isGood 6 = .ok (.iconst 0, 1) := by decide +kernel
theorem dL_isGood_7 : decode cL_isGood 7 = .ok (.istore 5, 2) := by decide +kernel
theorem dL_isGood_9 : decode cL_isGood 9 = .ok (.iconst 3, 1) := by decide +kernel
theorem dL_isGood_10 : decode cL_isGood 10 = .ok (.newarray .int, 2) := by decide +kernel
theorem dL_isGood_12 : decode cL_isGood 12 = .ok (.astore 6, 2) := by decide +kernel
theorem dL_isGood_14 : decode cL_isGood 14 = .ok (.iconst 1, 1) := by decide +kernel
theorem dL_isGood_15 : decode cL_isGood 15 = .ok (.istore 7, 2) := by decide +kernel
theorem dL_isGood_17 : decode cL_isGood 17 = .ok (.iconst 0, 1) := by decide +kernel
theorem dL_isGood_18 : decode cL_isGood 18 = .ok (.istore 8, 2) := by decide +kernel
theorem dL_isGood_20 : decode cL_isGood 20 = .ok (.iload 8, 2) := by decide +kernel
theorem dL_isGood_22 : decode cL_isGood 22 = .ok (.aload_n 0, 1) := by decide +kernel
theorem dL_isGood_23 : decode cL_isGood 23 = .ok (.bipush 11, 2) := by decide +kernel
theorem dL_isGood_25 : decode cL_isGood 25 = .ok (.iaload, 1) := by decide +kernel
theorem dL_isGood_26 : decode cL_isGood 26 = .ok (.aload_n 0, 1) := by decide +kernel
theorem dL_isGood_27 : decode cL_isGood 27 = .ok (.bipush 12, 2) := by decide +kernel
theorem dL_isGood_29 : decode cL_isGood 29 = .ok (.iaload, 1) := by decide +kernel
theorem dL_isGood_30 : decode cL_isGood 30 = .ok (.iadd, 1) := by decide +kernel
theorem dL_isGood_31 : decode cL_isGood 31 = .ok (.if_icmp .ge 172, 3) := by decide +kernel
theorem dL_isGood_34 : decode cL_isGood 34 = .ok (.iload 8, 2) := by decide +kernel
theorem dL_isGood_36 : decode cL_isGood 36 = .ok (.aload_n 0, 1) := by decide +kernel
theorem dL_isGood_37 : decode cL_isGood 37 = .ok (.bipush 11, 2) := by decide +kernel
theorem dL_isGood_39 : decode cL_isGood 39 = .ok (.iaload, 1) := by decide +kernel
theorem dL_isGood_40 : decode cL_isGood 40 = .ok (.if_icmp .ge 7, 3) := by decide +kernel
theorem dL_isGood_43 : decode cL_isGood 43 = .ok (.iconst 1, 1) := by decide +kernel
theorem dL_isGood_44 : decode cL_isGood 44 = .ok (.goto 4, 3) := by decide +kernel
theorem dL_isGood_47 : decode cL_isGood 47 = .ok (.iconst 0, 1) := by decide +kernel
theorem dL_isGood_48 : decode cL_isGood 48 = .ok (.istore 9, 2) := by decide +kernel
theorem dL_isGood_50 : decode cL_isGood 50 = .ok (.iload 9, 2) := by decide +kernel
theorem dL_isGood_52 : decode cL_isGood 52 = .ok (.ifCond .eq 11, 3) := by decide +kernel
theorem dL_isGood_55 : decode cL_isGood 55 = .ok (.bipush 11, 2) := by decide +kernel
theorem dL_isGood_57 : decode cL_isGood 57 = .ok (.iload 8, 2) := by decide +kernel
theorem dL_isGood_59 : decode cL_isGood 59 = .ok (.imul, 1) := by decide +kernel
theorem dL_isGood_60 : decode cL_isGood 60 = .ok (.goto 13, 3) := by decide +kernel
theorem dL_isGood_63 : decode cL_isGood 63 = .ok (.bipush 7, 2) := by decide +kernel
theorem dL_isGood_65 : decode cL_isGood 65 = .ok (.iload 8, 2) := by decide +kernel
theorem dL_isGood_67 : decode cL_isGood 67 = .ok (.aload_n 0, 1) := by decide +kernel
theorem dL_isGood_68 : decode cL_isGood 68 = .ok (.bipush 11, 2) := by decide +kernel
theorem dL_isGood_70 : decode cL_isGood 70 = .ok (.iaload, 1) := by decide +kernel
theorem dL_isGood_71 : decode cL_isGood 71 = .ok (.isub, 1) := by decide +kernel
theorem dL_isGood_72 : decode cL_isGood 72 = .ok (.imul, 1) := by decide +kernel
theorem dL_isGood_73 : decode cL_isGood 73 = .ok (.istore 10, 2) := by decide +kernel
theorem dL_isGood_75 : decode cL_isGood 75 = .ok (.iload 9, 2) := by decide +kernel
theorem dL_isGood_77 : decode cL_isGood 77 = .ok (.ifCond .eq 13, 3) := by decide +kernel
theorem dL_isGood_80 : decode cL_isGood 80 = .ok (.aload_n 1, 1) := by decide +kernel
theorem dL_isGood_81 : decode cL_isGood 81 = .ok (.iload 8, 2) := by decide +kernel
theorem dL_isGood_83 : decode cL_isGood 83 = .ok (.iload_n 3, 1) := by decide +kernel
theorem dL_isGood_84 : decode cL_isGood 84 = .ok (.invokestatic 15, 3) := by decide +kernel
theorem dL_isGood_87 : decode cL_isGood 87 = .ok (.ifCond .ne 18, 3) := by decide +kernel
theorem dL_isGood_90 : decode cL_isGood 90 = .ok (.iload 9, 2) := by decide +kernel
theorem dL_isGood_92 : decode cL_isGood 92 = .ok (.ifCond .ne 105, 3) := by decide +kernel
theorem dL_isGood_95 : decode cL_isGood 95 = .ok (.aload_n 2, 1) := by decide +kernel
theorem dL_isGood_96 : decode cL_isGood 96 = .ok (.iload 10, 2) := by decide +kernel
theorem dL_isGood_98 : decode cL_isGood 98 = .ok (.iconst 1, 1) := by decide +kernel
theorem dL_isGood_99 : decode cL_isGood 99 = .ok (.iadd, 1) := by decide +kernel
theorem dL_isGood_100 : decode cL_isGood 100 = .ok (.iaload, 1) := by decide +kernel
theorem dL_isGood_101 : decode cL_isGood 101 = .ok (.iload_n 3, 1) := by decide +kernel
theorem dL_isGood_102 : decode cL_isGood 102 = .ok (.if_icmp .ne 95, 3) := by decide +kernel
theorem dL_isGood_105 : decode cL_isGood 105 = .ok (.iload 9, 2) := by decide +kernel
theorem dL_isGood_107 : decode cL_isGood 107 = .ok (.ifCond .eq 10, 3) := by decide +kernel
theorem dL_isGood_110 : decode cL_isGood 110 = .ok (.aload_n 1, 1) := by decide +kernel
theorem dL_isGood_111 : decode cL_isGood 111 = .ok (.iload 10, 2) := by decide +kernel
theorem dL_isGood_113 : decode cL_isGood 113 = .ok (.iaload, 1) := by decide +kernel
theorem dL_isGood_114 : decode cL_isGood 114 = .ok (.goto 7, 3) := by decide +kernel
theorem dL_isGood_117 : decode cL_isGood 117 = .ok (.aload_n 2, 1) := by decide +kernel
theorem dL_isGood_118 : decode cL_isGood 118 = .ok (.iload 10, 2) := by decide +kernel
theorem dL_isGood_120 : decode cL_isGood 120 = .ok (.iaload, 1) := by decide +kernel
theorem dL_isGood_121 : decode cL_isGood 121 = .ok (.istore 11, 2) := by decide +kernel
theorem dL_isGood_123 : decode cL_isGood 123 = .ok (.iload 9, 2) := by decide +kernel
theorem dL_isGood_125 : decode cL_isGood 125 = .ok (.ifCond .eq 12, 3) := by decide +kernel
theorem dL_isGood_128 : decode cL_isGood 128 = .ok (.aload_n 1, 1) := by decide +kernel
theorem dL_isGood_129 : decode cL_isGood 129 = .ok (.iload 10, 2) := by decide +kernel
theorem dL_isGood_131 : decode cL_isGood 131 = .ok (.iconst 2, 1) := by decide +kernel
theorem dL_isGood_132 : decode cL_isGood 132 = .ok (.iadd, 1) := by decide +kernel
theorem dL_isGood_133 : decode cL_isGood 133 = .ok (.iaload, 1) := by decide +kernel
theorem dL_isGood_134 : decode cL_isGood 134 = .ok (.goto 9, 3) := by decide +kernel
theorem dL_isGood_137 : decode cL_isGood 137 = .ok (.aload_n 2, 1) := by decide +kernel
theorem dL_isGood_138 : decode cL_isGood 138 = .ok (.iload 10, 2) := by decide +kernel
theorem dL_isGood_140 : decode cL_isGood 140 = .ok (.iconst 2, 1) := by decide +kernel
theorem dL_isGood_141 : decode cL_isGood 141 = .ok (.iadd, 1) := by decide +kernel
theorem dL_isGood_142 : decode cL_isGood 142 = .ok (.iaload, 1) := by decide +kernel
theorem dL_isGood_143 : decode cL_isGood 143 = .ok (.istore 12, 2) := by decide +kernel
theorem dL_isGood_145 : decode cL_isGood 145 = .ok (.iload 9, 2) := by decide +kernel
theorem dL_isGood_147 : decode cL_isGood 147 = .ok (.ifCond .eq 12, 3) := by decide +kernel
theorem dL_isGood_150 : decode cL_isGood 150 = .ok (.aload_n 1, 1) := by decide +kernel
theorem dL_isGood_151 : decode cL_isGood 151 = .ok (.iload 10, 2) := by decide +kernel
theorem dL_isGood_153 : decode cL_isGood 153 = .ok (.iconst 3, 1) := by decide +kernel
theorem dL_isGood_154 : decode cL_isGood 154 = .ok (.iadd, 1) := by decide +kernel
theorem dL_isGood_155 : decode cL_isGood 155 = .ok (.iaload, 1) := by decide +kernel
theorem dL_isGood_156 : decode cL_isGood 156 = .ok (.goto 9, 3) := by decide +kernel
theorem dL_isGood_159 : decode cL_isGood 159 = .ok (.aload_n 2, 1) := by decide +kernel
theorem dL_isGood_160 : decode cL_isGood 160 = .ok (.iload 10, 2) := by decide +kernel
theorem dL_isGood_162 : decode cL_isGood 162 = .ok (.iconst 3, 1) := by decide +kernel
theorem dL_isGood_163 : decode cL_isGood 163 = .ok (.iadd, 1) := by decide +kernel
theorem dL_isGood_164 : decode cL_isGood 164 = .ok (.iaload, 1) := by decide +kernel
theorem dL_isGood_165 : decode cL_isGood 165 = .ok (.istore 13, 2) := by decide +kernel
theorem dL_isGood_167 : decode cL_isGood 167 = .ok (.aload 4, 2) := by decide +kernel
theorem dL_isGood_169 : decode cL_isGood 169 = .ok (.iload 5, 2) := by decide +kernel
theorem dL_isGood_171 : decode cL_isGood 171 = .ok (.iload 11, 2) := by decide +kernel
theorem dL_isGood_173 : decode cL_isGood 173 = .ok (.iload 12, 2) := by decide +kernel
theorem dL_isGood_175 : decode cL_isGood 175 = .ok (.iload 13, 2) := by decide +kernel
theorem dL_isGood_177 : decode cL_isGood 177 = .ok (.invokestatic 9, 3) := by decide +kernel
theorem dL_isGood_180 : decode cL_isGood 180 = .ok (.istore 5, 2) := by decide +kernel
theorem dL_isGood_182 : decode cL_isGood 182 = .ok (.aload 6, 2) := by decide +kernel
theorem dL_isGood_184 : decode cL_isGood 184 = .ok (.iload 11, 2) := by decide +kernel
theorem dL_isGood_186 : decode cL_isGood 186 = .ok (.dup2, 1) := by decide +kernel
theorem dL_isGood_187 : decode cL_isGood 187 = .ok (.iaload, 1) := by decide +kernel
theorem dL_isGood_188 : decode cL_isGood 188 = .ok (.iload 12, 2) := by decide +kernel
theorem dL_isGood_190 : decode cL_isGood 190 = .ok (.iload 13, 2) := by decide +kernel
theorem dL_isGood_192 : decode cL_isGood 192 = .ok (.invokestatic 69, 3) := by decide +kernel
theorem dL_isGood_195 : decode cL_isGood 195 = .ok (.ior, 1) := by decide +kernel
theorem dL_isGood_196 : decode cL_isGood 196 = .ok (.iastore, 1) := by decide +kernel
theorem dL_isGood_197 : decode cL_isGood 197 = .ok (.iinc 8 1, 3) := by decide +kernel
theorem dL_isGood_200 : decode cL_isGood 200 = .ok (.goto (-180), 3) := by decide +kernel
theorem dL_isGood_203 : decode cL_isGood 203 = .ok (.iconst 0, 1) := by decide +kernel
theorem dL_isGood_204 : decode cL_isGood 204 = .ok (.istore 8, 2) := by decide +kernel
theorem dL_isGood_206 : decode cL_isGood 206 = .ok (.iload 8, 2) := by decide +kernel
theorem dL_isGood_208 : decode cL_isGood 208 = .ok (.iload 5, 2) := by decide +kernel
theorem dL_isGood_210 : decode cL_isGood 210 = .ok (.if_icmp .ge 96, 3) := by decide +kernel
theorem dL_isGood_213 : decode cL_isGood 213 = .ok (.aload 4, 2) := by decide +kernel
theorem dL_isGood_215 : decode cL_isGood 215 = .ok (.iload 8, 2) := by decide +kernel
theorem dL_isGood_217 : decode cL_isGood 217 = .ok (.iaload, 1) := by decide +kernel
theorem dL_isGood_218 : decode cL_isGood 218 = .ok (.sipush 1000, 3) := by decide +kernel
theorem dL_isGood_221 : decode cL_isGood 221 = .ok (.idiv, 1) := by decide +kernel
theorem dL_isGood_222 : decode cL_isGood 222 = .ok (.bipush 10, 2) := by decide +kernel
theorem dL_isGood_224 : decode cL_isGood 224 = .ok (.irem, 1) := by decide +kernel
theorem dL_isGood_225 : decode cL_isGood 225 = .ok (.istore 9, 2) := by decide +kernel
theorem dL_isGood_227 : decode cL_isGood 227 = .ok (.aload 4, 2) := by decide +kernel
theorem dL_isGood_229 : decode cL_isGood 229 = .ok (.iload 8, 2) := by decide +kernel
theorem dL_isGood_231 : decode cL_isGood 231 = .ok (.iaload, 1) := by decide +kernel
theorem dL_isGood_232 : decode cL_isGood 232 = .ok (.sipush 10000, 3) := by decide +kernel
theorem dL_isGood_235 : decode cL_isGood 235 = .ok (.idiv, 1) := by decide +kernel
theorem dL_isGood_236 : decode cL_isGood 236 = .ok (.aload 4, 2) := by decide +kernel
theorem dL_isGood_238 : decode cL_isGood 238 = .ok (.iload 8, 2) := by decide +kernel
theorem dL_isGood_240 : decode cL_isGood 240 = .ok (.iaload, 1) := by decide +kernel
theorem dL_isGood_241 : decode cL_isGood 241 = .ok (.sipush 10000, 3) := by decide +kernel
theorem dL_isGood_244 : decode cL_isGood 244 = .ok (.idiv, 1) := by decide +kernel
theorem dL_isGood_245 : decode cL_isGood 245 = .ok (.aload_n 0, 1) := by decide +kernel
theorem dL_isGood_246 : decode cL_isGood 246 = .ok (.iconst 0, 1) := by decide +kernel
theorem dL_isGood_247 : decode cL_isGood 247 = .ok (.iaload, 1) := by decide +kernel
theorem dL_isGood_248 : decode cL_isGood 248 = .ok (.iadd, 1) := by decide +kernel
theorem dL_isGood_249 : decode cL_isGood 249 = .ok (.bipush 24, 2) := by decide +kernel
theorem dL_isGood_251 : decode cL_isGood 251 = .ok (.if_icmp .le 8, 3) := by decide +kernel
theorem dL_isGood_254 : decode cL_isGood 254 = .ok (.bipush 24, 2) := by decide +kernel
theorem dL_isGood_256 : decode cL_isGood 256 = .ok (.goto 16, 3) := by decide +kernel
theorem dL_isGood_259 : decode cL_isGood 259 = .ok (.aload 4, 2) := by decide +kernel
theorem dL_isGood_261 : decode cL_isGood 261 = .ok (.iload 8, 2) := by decide +kernel
theorem dL_isGood_263 : decode cL_isGood 263 = .ok (.iaload, 1) := by decide +kernel
theorem dL_isGood_264 : decode cL_isGood 264 = .ok (.sipush 10000, 3) := by decide +kernel
theorem dL_isGood_267 : decode cL_isGood 267 = .ok (.idiv, 1) := by decide +kernel
theorem dL_isGood_268 : decode cL_isGood 268 = .ok (.aload_n 0, 1) := by decide +kernel
theorem dL_isGood_269 : decode cL_isGood 269 = .ok (.iconst 0, 1) := by decide +kernel
theorem dL_isGood_270 : decode cL_isGood 270 = .ok (.iaload, 1) := by decide +kernel
theorem dL_isGood_271 : decode cL_isGood 271 = .ok (.iadd, 1) := by decide +kernel
theorem dL_isGood_272 : decode cL_isGood 272 = .ok (.invokestatic 69, 3) := by decide +kernel
theorem dL_isGood_275 : decode cL_isGood 275 = .ok (.istore 10, 2) := by decide +kernel
theorem dL_isGood_277 : decode cL_isGood 277 = .ok (.iload 7, 2) := by decide +kernel
theorem dL_isGood_279 : decode cL_isGood 279 = .ok (.ifCond .eq 18, 3) := by decide +kernel
theorem dL_isGood_282 : decode cL_isGood 282 = .ok (.aload 6, 2) := by decide +kernel
theorem dL_isGood_284 : decode cL_isGood 284 = .ok (.iload 9, 2) := by decide +kernel
theorem dL_isGood_286 : decode cL_isGood 286 = .ok (.iaload, 1) := by decide +kernel
theorem dL_isGood_287 : decode cL_isGood 287 = .ok (.iload 10, 2) := by decide +kernel
theorem dL_isGood_289 : decode cL_isGood 289 = .ok (.iand, 1) := by decide +kernel
theorem dL_isGood_290 : decode cL_isGood 290 = .ok (.ifCond .ne 7, 3) := by decide +kernel
theorem dL_isGood_293 : decode cL_isGood 293 = .ok (.iconst 1, 1) := by decide +kernel
theorem dL_isGood_294 : decode cL_isGood 294 = .ok (.goto 4, 3) := by decide +kernel
theorem dL_isGood_297 : decode cL_isGood 297 = .ok (.iconst 0, 1) := by decide +kernel
theorem dL_isGood_298 : decode cL_isGood 298 = .ok (.istore 7, 2) := by decide +kernel
theorem dL_isGood_300 : decode cL_isGood 300 = .ok (.iinc 8 1, 3) := by decide +kernel
theorem dL_isGood_303 : decode cL_isGood 303 = .ok (.goto (-97), 3) := by decide +kernel
theorem dL_isGood_306 : decode cL_isGood 306 = .ok (.iload 7, 2) := by decide +kernel
theorem dL_isGood_308 : decode cL_isGood 308 = .ok (.ifCond .eq 20, 3) := by decide +kernel
theorem dL_isGood_311 : decode cL_isGood 311 = .ok (.aload 4, 2) := by decide +kernel
theorem dL_isGood_313 : decode cL_isGood 313 = .ok (.iload 5, 2) := by decide +kernel
theorem dL_isGood_315 : decode cL_isGood 315 = .ok (.aload_n 0, 1) := by decide +kernel
theorem dL_isGood_316 : decode cL_isGood 316 = .ok (.iconst 0, 1) := by decide +kernel
theorem dL_isGood_317 : decode cL_isGood 317 = .ok (.iaload, 1) := by decide +kernel
theorem dL_isGood_318 : decode cL_isGood 318 = .ok (.invokestatic 23, 3) := by decide +kernel
theorem dL_isGood_321 : decode cL_isGood 321 = .ok (.ifCond .eq 7, 3) := by decide +kernel
theorem dL_isGood_324 : decode cL_isGood 324 = .ok (.iconst 1, 1) := by decide +kernel
theorem dL_isGood_325 : decode cL_isGood 325 = .ok (.goto 4, 3) := by decide +kernel
theorem dL_isGood_328 : decode cL_isGood 328 = .ok (.iconst 0, 1) := by decide +kernel
theorem dL_isGood_329 : decode cL_isGood 329 = .ok (.ireturn, 1) := by decide +kernel
theorem dL_sets_0 : decode cL_sets 0 = .ok (.iload 4, 2) := by decide +kernel
theorem dL_sets_2 : decode cL_sets 2 = .ok (.iconst 5, 1) := by decide +kernel
theorem dL_sets_3 : decode cL_sets 3 = .ok (.invokestatic 58, 3) := by decide +kernel
theorem dL_sets_6 : decode cL_sets 6 = .ok (.istore 5, 2) := by decide +kernel
theorem dL_sets_8 : decode cL_sets 8 = .ok (.iload 5, 2) := by decide +kernel
theorem dL_sets_10 : decode cL_sets 10 = .ok (.ifCond .ne 14, 3) := by decide +kernel
theorem dL_sets_13 : decode cL_sets 13 = .ok (.iload 4, 2) := by decide +kernel
theorem dL_sets_15 : decode cL_sets 15 = .ok (.iconst 3, 1) := by decide +kernel
theorem dL_sets_16 : decode cL_sets 16 = .ok (.ishr, 1) := by decide +kernel
theorem dL_sets_17 : decode cL_sets 17 = .ok (.iconst 4, 1) := by decide +kernel
theorem dL_sets_18 : decode cL_sets 18 = .ok (.invokestatic 58, 3) := by decide +kernel
theorem dL_sets_21 : decode cL_sets 21 = .ok (.goto 48, 3) := by decide +kernel
theorem dL_sets_24 : decode cL_sets 24 = .ok (.iload 5, 2) := by decide +kernel
theorem dL_sets_26 : decode cL_sets 26 = .ok (.iconst 1, 1) := by decide +kernel
theorem dL_sets_27 : decode cL_sets 27 = .ok (.if_icmp .ne 15, 3) := by decide +kernel
theorem dL_sets_30 : decode cL_sets 30 = .ok (.iload 4, 2) := by decide +kernel
theorem dL_sets_32 : decode cL_sets 32 = .ok (.iconst 3, 1) := by decide +kernel
theorem dL_sets_33 : decode cL_sets 33 = .ok (.ishr, 1) := by decide +kernel
theorem dL_sets_34 : decode cL_sets 34 = .ok (.bipush 51, 2) := by decide +kernel
theorem dL_sets_36 : decode cL_sets 36 = .ok (.invokestatic 58, 3) := by decide +kernel
theorem dL_sets_39 : decode cL_sets 39 = .ok (.goto 30, 3) := by decide +kernel
theorem dL_sets_42 : decode cL_sets 42 = .ok (.iload 5, 2) := by decide +kernel
theorem dL_sets_44 : decode cL_sets 44 = .ok (.iconst 2, 1) := by decide +kernel
theorem dL_sets_45 : decode cL_sets 45 = .ok (.if_icmp .ne 15, 3) := by decide +kernel
theorem dL_sets_48 : decode cL_sets 48 = .ok (.iload 4, 2) := by decide +kernel
theorem dL_sets_50 : decode cL_sets 50 = .ok (.iconst 3, 1) := by decide +kernel
theorem dL_sets_51 : decode cL_sets 51 = .ok (.ishr, 1) := by decide +kernel
theorem dL_sets_52 : decode cL_sets 52 = .ok (.bipush 101, 2) := by decide +kernel
theorem dL_sets_54 : decode cL_sets 54 = .ok (.invokestatic 58, 3) := by decide +kernel
theorem dL_sets_57 : decode cL_sets 57 = .ok (.goto 12, 3) := by decide +kernel
theorem dL_sets_60 : decode cL_sets 60 = .ok (.iload 4, 2) := by decide +kernel
theorem dL_sets_62 : decode cL_sets 62 = .ok (.iconst 3, 1) := by decide +kernel
theorem dL_sets_63 : decode cL_sets 63 = .ok (.ishr, 1) := by decide +kernel
theorem dL_sets_64 : decode cL_sets 64 = .ok (.bipush 12, 2) := by decide +kernel
theorem dL_sets_66 : decode cL_sets 66 = .ok (.invokestatic 58, 3) := by decide +kernel
theorem dL_sets_69 : decode cL_sets 69 = .ok (.istore 6, 2) := by decide +kernel
theorem dL_sets_71 : decode cL_sets 71 = .ok (.aload_n 1, 1) := by decide +kernel
theorem dL_sets_72 : decode cL_sets 72 = .ok (.iload 5, 2) := by decide +kernel
theorem dL_sets_74 : decode cL_sets 74 = .ok (.iaload, 1) := by decide +kernel
theorem dL_sets_75 : decode cL_sets 75 = .ok (.istore 7, 2) := by decide +kernel
theorem dL_sets_77 : decode cL_sets 77 = .ok (.aload_n 1, 1) := by decide +kernel
theorem dL_sets_78 : decode cL_sets 78 = .ok (.iload 5, 2) := by decide +kernel
theorem dL_sets_80 : decode cL_sets 80 = .ok (.iload 6, 2) := by decide +kernel
theorem dL_sets_82 : decode cL_sets 82 = .ok (.iastore, 1) := by decide +kernel
theorem dL_sets_83 : decode cL_sets 83 = .ok (.aload_n 1, 1) := by decide +kernel
theorem dL_sets_84 : decode cL_sets 84 = .ok (.iconst 3, 1) := by decide +kernel
theorem dL_sets_85 : decode cL_sets 85 = .ok (.iaload, 1) := by decide +kernel
theorem dL_sets_86 : decode cL_sets 86 = .ok (.aload_n 1, 1) := by decide +kernel
theorem dL_sets_87 : decode cL_sets 87 = .ok (.iconst 4, 1) := by decide +kernel
theorem dL_sets_88 : decode cL_sets 88 = .ok (.iaload, 1) := by decide +kernel
theorem dL_sets_89 : decode cL_sets 89 = .ok (.if_icmp .gt 7, 3) := by decide +kernel
theorem dL_sets_92 : decode cL_sets 92 = .ok (.iconst 1, 1) := by decide +kernel
theorem dL_sets_93 : decode cL_sets 93 = .ok (.goto 4, 3) := by decide +kernel
theorem dL_sets_96 : decode cL_sets 96 = .ok (.iconst 0, 1) := by decide +kernel
theorem dL_sets_97 : decode cL_sets 97 = .ok (.istore 8, 2) := by decide +kernel
theorem dL_sets_99 : decode cL_sets 99 = .ok (.iconst 0, 1) := by decide +kernel
theorem dL_sets_100 : decode cL_sets 100 = .ok (.istore 9, 2) := by decide +kernel
theorem dL_sets_102 : decode cL_sets 102 = .ok (.iload 9, 2) := by decide +kernel
theorem dL_sets_104 : decode cL_sets 104 = .ok (.bipush 84, 2) := by decide +kernel
theorem dL_sets_106 : decode cL_sets 106 = .ok (.if_icmp .ge 29, 3) := by decide +kernel
theorem dL_sets_109 : decode cL_sets 109 = .ok (.iload 8, 2) := by decide +kernel
theorem dL_sets_111 : decode cL_sets 111 = .ok (.ifCond .eq 24, 3) := by decide +kernel
theorem dL_sets_114 : decode cL_sets 114 = .ok (.iload 5, 2) := by decide +kernel
theorem dL_sets_116 : decode cL_sets 116 = .ok (.ifCond .ne 19, 3) := by decide +kernel
theorem dL_sets_119 : decode cL_sets 119 = .ok (.aload_n 1, 1) := by decide +kernel
theorem dL_sets_120 : decode cL_sets 120 = .ok (.aload_n 2, 1) := by decide +kernel
theorem dL_sets_121 : decode cL_sets 121 = .ok (.aload_n 3, 1) := by decide +kernel
theorem dL_sets_122 : decode cL_sets 122 = .ok (.iload 9, 2) := by decide +kernel
theorem dL_sets_124 : decode cL_sets 124 = .ok (.invokestatic 72, 3) := by decide +kernel
theorem dL_sets_127 : decode cL_sets 127 = .ok (.istore 8, 2) := by decide +kernel
theorem dL_sets_129 : decode cL_sets 129 = .ok (.iinc 9 1, 3) := by decide +kernel
theorem dL_sets_132 : decode cL_sets 132 = .ok (.goto (-30), 3) := by decide +kernel
theorem dL_sets_135 : decode cL_sets 135 = .ok (.iload 8, 2) := by decide +kernel
theorem dL_sets_137 : decode cL_sets 137 = .ok (.ifCond .ne 29, 3) := by decide +kernel
theorem dL_sets_140 : decode cL_sets 140 = .ok (.aload_n 1, 1) := by decide +kernel
theorem dL_sets_141 : decode cL_sets 141 = .ok (.iload 5, 2) := by decide +kernel
theorem dL_sets_143 : decode cL_sets 143 = .ok (.iload 7, 2) := by decide +kernel
theorem dL_sets_145 : decode cL_sets 145 = .ok (.iastore, 1) := by decide +kernel
theorem dL_sets_146 : decode cL_sets 146 = .ok (.aload_n 0, 1) := by decide +kernel
theorem dL_sets_147 : decode cL_sets 147 = .ok (.bipush 7, 2) := by decide +kernel
theorem dL_sets_149 : decode cL_sets 149 = .ok (.iload 5, 2) := by decide +kernel
theorem dL_sets_151 : decode cL_sets 151 = .ok (.iadd, 1) := by decide +kernel
theorem dL_sets_152 : decode cL_sets 152 = .ok (.invokevirtual 51, 3) := by decide +kernel
theorem dL_sets_155 : decode cL_sets 155 = .ok (.iload 7, 2) := by decide +kernel
theorem dL_sets_157 : decode cL_sets 157 = .ok (.if_icmp .ne 7, 3) := by decide +kernel
theorem dL_sets_160 : decode cL_sets 160 = .ok (.iconst 1, 1) := by decide +kernel
theorem dL_sets_161 : decode cL_sets 161 = .ok (.goto 4, 3) := by decide +kernel
theorem dL_sets_164 : decode cL_sets 164 = .ok (.iconst 0, 1) := by decide +kernel
theorem dL_sets_165 : decode cL_sets 165 = .ok (.ireturn, 1) := by decide +kernel
theorem dL_sets_166 : decode cL_sets 166 = .ok (.aload_n 0, 1) := by decide +kernel
theorem dL_sets_167 : decode cL_sets 167 = .ok (.iload 5, 2) := by decide +kernel
theorem dL_sets_169 : decode cL_sets 169 = .ok (.iload 6, 2) := by decide +kernel
theorem dL_sets_171 : decode cL_sets 171 = .ok (.invokevirtual 76, 3) := by decide +kernel
theorem dL_sets_174 : decode cL_sets 174 = .ok (.iload 7, 2) := by decide +kernel
theorem dL_sets_176 : decode cL_sets 176 = .ok (.if_icmp .ne 7, 3) := by decide +kernel
theorem dL_sets_179 : decode cL_sets 179 = .ok (.iconst 1, 1) := by decide +kernel
theorem dL_sets_180 : decode cL_sets 180 = .ok (.goto 4, 3) := by decide +kernel
theorem dL_sets_183 : decode cL_sets 183 = .ok (.iconst 0, 1) := by decide +kernel
theorem dL_sets_184 : decode cL_sets 184 = .ok (.ireturn, 1) := by decide +kernel
theorem dL_isLets_0 : decode cL_isLets 0 = .ok (.iconst 1, 1) := by decide +kernel
theorem dL_isLets_1 : decode cL_isLets 1 = .ok (.istore 4, 2) := by decide +kernel
theorem dL_isLets_3 : decode cL_isLets 3 = .ok (.iconst 0, 1) := by decide +kernel
theorem dL_isLets_4 : decode cL_isLets 4 = .ok (.istore 5, 2) := by decide +kernel
theorem dL_isLets_6 : decode cL_isLets 6 = .ok (.iload 5, 2) := by decide +kernel
theorem dL_isLets_8 : decode cL_isLets 8 = .ok (.aload_n 1, 1) := by decide +kernel
theorem dL_isLets_9 : decode cL_isLets 9 = .ok (.bipush 11, 2) := by decide +kernel
theorem dL_isLets_11 : decode cL_isLets 11 = .ok (.iaload, 1) := by decide +kernel
theorem dL_isLets_12 : decode cL_isLets 12 = .ok (.if_icmp .ge 171, 3) := by decide +kernel
theorem dL_isLets_15 : decode cL_isLets 15 = .ok (.iload 4, 2) := by decide +kernel
theorem dL_isLets_17 : decode cL_isLets 17 = .ok (.ifCond .eq 166, 3) := by decide +kernel
theorem dL_isLets_20 : decode cL_isLets 20 = .ok (.iconst (-1), 1) := by decide +kernel
theorem dL_isLets_21 : decode cL_isLets 21 = .ok (.istore 6, 2) := by decide +kernel
theorem dL_isLets_23 : decode cL_isLets 23 = .ok (.bipush 11, 2) := by decide +kernel
theorem dL_isLets_25 : decode cL_isLets 25 = .ok (.istore 7, 2) := by decide +kernel
theorem dL_isLets_27 : decode cL_isLets 27 = .ok (.iload 7, 2) := by decide +kernel
theorem dL_isLets_29 : decode cL_isLets 29 = .ok (.ifCond .lt 50, 3) := by decide +kernel
theorem dL_isLets_32 : decode cL_isLets 32 = .ok (.aload_n 2, 1) := by decide +kernel
theorem dL_isLets_33 : decode cL_isLets 33 = .ok (.bipush 11, 2) := by decide +kernel
theorem dL_isLets_35 : decode cL_isLets 35 = .ok (.iload 5, 2) := by decide +kernel
theorem dL_isLets_37 : decode cL_isLets 37 = .ok (.imul, 1) := by decide +kernel
theorem dL_isLets_38 : decode cL_isLets 38 = .ok (.bipush 9, 2) := by decide +kernel
theorem dL_isLets_40 : decode cL_isLets 40 = .ok (.iadd, 1) := by decide +kernel
theorem dL_isLets_41 : decode cL_isLets 41 = .ok (.iaload, 1) := by decide +kernel
theorem dL_isLets_42 : decode cL_isLets 42 = .ok (.iload 7, 2) := by decide +kernel
theorem dL_isLets_44 : decode cL_isLets 44 = .ok (.ishr, 1) := by decide +kernel
theorem dL_isLets_45 : decode cL_isLets 45 = .ok (.iconst 1, 1) := by decide +kernel
theorem dL_isLets_46 : decode cL_isLets 46 = .ok (.iand, 1) := by decide +kernel
theorem dL_isLets_47 : decode cL_isLets 47 = .ok (.iconst 1, 1) := by decide +kernel
theorem dL_isLets_48 : decode cL_isLets 48 = .ok (.if_icmp .ne 21, 3) := by decide +kernel
theorem dL_isLets_51 : decode cL_isLets 51 = .ok (.bipush 7, 2) := by decide +kernel
theorem dL_isLets_53 : decode cL_isLets 53 = .ok (.iload 7, 2) := by decide +kernel
theorem dL_isLets_55 : decode cL_isLets 55 = .ok (.imul, 1) := by decide +kernel
theorem dL_isLets_56 : decode cL_isLets 56 = .ok (.aload_n 2, 1) := by decide +kernel
theorem dL_isLets_57 : decode cL_isLets 57 = .ok (.bipush 11, 2) := by decide +kernel
theorem dL_isLets_59 : decode cL_isLets 59 = .ok (.iload 5, 2) := by decide +kernel
theorem dL_isLets_61 : decode cL_isLets 61 = .ok (.imul, 1) := by decide +kernel
theorem dL_isLets_62 : decode cL_isLets 62 = .ok (.iconst 1, 1) := by decide +kernel
theorem dL_isLets_63 : decode cL_isLets 63 = .ok (.iadd, 1) := by decide +kernel
theorem dL_isLets_64 : decode cL_isLets 64 = .ok (.iaload, 1) := by decide +kernel
theorem dL_isLets_65 : decode cL_isLets 65 = .ok (.iadd, 1) := by decide +kernel
theorem dL_isLets_66 : decode cL_isLets 66 = .ok (.goto 5, 3) := by decide +kernel
theorem dL_isLets_69 : decode cL_isLets 69 = .ok (.iload 6, 2) := by decide +kernel
theorem dL_isLets_71 : decode cL_isLets 71 = .ok (.istore 6, 2) := by decide +kernel
theorem dL_isLets_73 : decode cL_isLets 73 = .ok (.iinc 7 (-1), 3) := by decide +kernel
theorem dL_isLets_76 : decode cL_isLets 76 = .ok (.goto (-49), 3) := by decide +kernel
theorem dL_isLets_79 : decode cL_isLets 79 = .ok (.iconst 0, 1) := by decide +kernel
theorem dL_isLets_80 : decode cL_isLets 80 = .ok (.istore 7, 2) := by decide +kernel
theorem dL_isLets_82 : decode cL_isLets 82 = .ok (.iload 7, 2) := by decide +kernel
theorem dL_isLets_84 : decode cL_isLets 84 = .ok (.bipush 9, 2) := by decide +kernel
theorem dL_isLets_86 : decode cL_isLets 86 = .ok (.if_icmp .ge 42, 3) := by decide +kernel
theorem dL_isLets_89 : decode cL_isLets 89 = .ok (.iload 4, 2) := by decide +kernel
theorem dL_isLets_91 : decode cL_isLets 91 = .ok (.ifCond .eq 28, 3) := by decide +kernel
theorem dL_isLets_94 : decode cL_isLets 94 = .ok (.aload_n 0, 1) := by decide +kernel
theorem dL_isLets_95 : decode cL_isLets 95 = .ok (.iload 5, 2) := by decide +kernel
theorem dL_isLets_97 : decode cL_isLets 97 = .ok (.iload 7, 2) := by decide +kernel
theorem dL_isLets_99 : decode cL_isLets 99 = .ok (.invokevirtual 79, 3) := by decide +kernel
theorem dL_isLets_102 : decode cL_isLets 102 = .ok (.aload_n 2, 1) := by decide +kernel
theorem dL_isLets_103 : decode cL_isLets 103 = .ok (.bipush 11, 2) := by decide +kernel
theorem dL_isLets_105 : decode cL_isLets 105 = .ok (.iload 5, 2) := by decide +kernel
theorem dL_isLets_107 : decode cL_isLets 107 = .ok (.imul, 1) := by decide +kernel
theorem dL_isLets_108 : decode cL_isLets 108 = .ok (.iload 7, 2) := by decide +kernel
theorem dL_isLets_110 : decode cL_isLets 110 = .ok (.iadd, 1) := by decide +kernel
theorem dL_isLets_111 : decode cL_isLets 111 = .ok (.iaload, 1) := by decide +kernel
theorem dL_isLets_112 : decode cL_isLets 112 = .ok (.if_icmp .ne 7, 3) := by decide +kernel
theorem dL_isLets_115 : decode cL_isLets 115 = .ok (.iconst 1, 1) := by decide +kernel
theorem dL_isLets_116 : decode cL_isLets 116 = .ok (.goto 4, 3) := by decide +kernel
theorem dL_isLets_119 : decode cL_isLets 119 = .ok (.iconst 0, 1) := by decide +kernel
theorem dL_isLets_120 : decode cL_isLets 120 = .ok (.istore 4, 2) := by decide +kernel
theorem dL_isLets_122 : decode cL_isLets 122 = .ok (.iinc 7 1, 3) := by decide +kernel
theorem dL_isLets_125 : decode cL_isLets 125 = .ok (.goto (-43), 3) := by decide +kernel
theorem dL_isLets_128 : decode cL_isLets 128 = .ok (.iload 4, 2) := by decide +kernel
theorem dL_isLets_130 : decode cL_isLets 130 = .ok (.ifCond .eq 44, 3) := by decide +kernel
theorem dL_isLets_133 : decode cL_isLets 133 = .ok (.aload_n 0, 1) := by decide +kernel
theorem dL_isLets_134 : decode cL_isLets 134 = .ok (.iload 5, 2) := by decide +kernel
theorem dL_isLets_136 : decode cL_isLets 136 = .ok (.bipush 9, 2) := by decide +kernel
theorem dL_isLets_138 : decode cL_isLets 138 = .ok (.invokevirtual 79, 3) := by decide +kernel
theorem dL_isLets_141 : decode cL_isLets 141 = .ok (.aload_n 2, 1) := by decide +kernel
theorem dL_isLets_142 : decode cL_isLets 142 = .ok (.bipush 11, 2) := by decide +kernel
theorem dL_isLets_144 : decode cL_isLets 144 = .ok (.iload 5, 2) := by decide +kernel
theorem dL_isLets_146 : decode cL_isLets 146 = .ok (.imul, 1) := by decide +kernel
theorem dL_isLets_147 : decode cL_isLets 147 = .ok (.bipush 9, 2) := by decide +kernel
theorem dL_isLets_149 : decode cL_isLets 149 = .ok (.iadd, 1) := by decide +kernel
theorem dL_isLets_150 : decode cL_isLets 150 = .ok (.iaload, 1) := by decide +kernel
theorem dL_isLets_151 : decode cL_isLets 151 = .ok (.invokestatic 62, 3) := by decide +kernel
theorem dL_isLets_154 : decode cL_isLets 154 = .ok (.if_icmp .ne 20, 3) := by decide +kernel
theorem dL_isLets_157 : decode cL_isLets 157 = .ok (.aload_n 0, 1) := by decide +kernel
theorem dL_isLets_158 : decode cL_isLets 158 = .ok (.iload 5, 2) := by decide +kernel
theorem dL_isLets_160 : decode cL_isLets 160 = .ok (.bipush 10, 2) := by decide +kernel
theorem dL_isLets_162 : decode cL_isLets 162 = .ok (.invokevirtual 79, 3) := by decide +kernel
theorem dL_isLets_165 : decode cL_isLets 165 = .ok (.iload 6, 2) := by decide +kernel
theorem dL_isLets_167 : decode cL_isLets 167 = .ok (.if_icmp .ne 7, 3) := by decide +kernel
theorem dL_isLets_170 : decode cL_isLets 170 = .ok (.iconst 1, 1) := by decide +kernel
theorem dL_isLets_171 : decode cL_isLets 171 = .ok (.goto 4, 3) := by decide +kernel
theorem dL_isLets_174 : decode cL_isLets 174 = .ok (.iconst 0, 1) := by decide +kernel
theorem dL_isLets_175 : decode cL_isLets 175 = .ok (.istore 4, 2) := by decide +kernel
theorem dL_isLets_177 : decode cL_isLets 177 = .ok (.iinc 5 1, 3) := by decide +kernel
theorem dL_isLets_180 : decode cL_isLets 180 = .ok (.goto (-174), 3) := by decide +kernel
theorem dL_isLets_183 : decode cL_isLets 183 = .ok (.iconst 0, 1) := by decide +kernel
theorem dL_isLets_184 : decode cL_isLets 184 = .ok (.istore 5, 2) := by decide +kernel
theorem dL_isLets_186 : decode cL_isLets 186 = .ok (.iload 5, 2) := by decide +kernel
theorem dL_isLets_188 : decode cL_isLets 188 = .ok (.aload_n 1, 1) := by decide +kernel
theorem dL_isLets_189 : decode cL_isLets 189 = .ok (.bipush 12, 2) := by decide +kernel
theorem dL_isLets_191 : decode cL_isLets 191 = .ok (.iaload, 1) := by decide +kernel
theorem dL_isLets_192 : decode cL_isLets 192 = .ok (.if_icmp .ge 63, 3) := by decide +kernel
theorem dL_isLets_195 : decode cL_isLets 195 = .ok (.iload 4, 2) := by decide +kernel
theorem dL_isLets_197 : decode cL_isLets 197 = .ok (.ifCond .eq 58, 3) := by decide +kernel
theorem dL_isLets_200 : decode cL_isLets 200 = .ok (.iconst 0, 1) := by decide +kernel
theorem dL_isLets_201 : decode cL_isLets 201 = .ok (.istore 6, 2) := by decide +kernel
theorem dL_isLets_203 : decode cL_isLets 203 = .ok (.iload 6, 2) := by decide +kernel
theorem dL_isLets_205 : decode cL_isLets 205 = .ok (.bipush 7, 2) := by decide +kernel
theorem dL_isLets_207 : decode cL_isLets 207 = .ok (.if_icmp .ge 42, 3) := by decide +kernel
theorem dL_isLets_210 : decode cL_isLets 210 = .ok (.iload 4, 2) := by decide +kernel
theorem dL_isLets_212 : decode cL_isLets 212 = .ok (.ifCond .eq 28, 3) := by decide +kernel
theorem dL_isLets_215 : decode cL_isLets 215 = .ok (.aload_n 0, 1) := by decide +kernel
theorem dL_isLets_216 : decode cL_isLets 216 = .ok (.iload 5, 2) := by decide +kernel
theorem dL_isLets_218 : decode cL_isLets 218 = .ok (.iload 6, 2) := by decide +kernel
theorem dL_isLets_220 : decode cL_isLets 220 = .ok (.invokevirtual 82, 3) := by decide +kernel
theorem dL_isLets_223 : decode cL_isLets 223 = .ok (.aload_n 3, 1) := by decide +kernel
theorem dL_isLets_224 : decode cL_isLets 224 = .ok (.bipush 7, 2) := by decide +kernel
theorem dL_isLets_226 : decode cL_isLets 226 = .ok (.iload 5, 2) := by decide +kernel
theorem dL_isLets_228 : decode cL_isLets 228 = .ok (.imul, 1) := by decide +kernel
theorem dL_isLets_229 : decode cL_isLets 229 = .ok (.iload 6, 2) := by decide +kernel
theorem dL_isLets_231 : decode cL_isLets 231 = .ok (.iadd, 1) := by decide +kernel
theorem dL_isLets_232 : decode cL_isLets 232 = .ok (.iaload, 1) := by decide +kernel
theorem dL_isLets_233 : decode cL_isLets 233 = .ok (.if_icmp .ne 7, 3) := by decide +kernel
theorem dL_isLets_236 : decode cL_isLets 236 = .ok (.iconst 1, 1) := by decide +kernel
theorem dL_isLets_237 : decode cL_isLets 237 = .ok (.goto 4, 3) := by decide +kernel
theorem dL_isLets_240 : decode cL_isLets 240 = .ok (.iconst 0, 1) := by decide +kernel
theorem dL_isLets_241 : decode cL_isLets 241 = .ok (.istore 4, 2) := by decide +kernel
theorem dL_isLets_243 : decode cL_isLets 243 = .ok (.iinc 6 1, 3) := by decide +kernel
theorem dL_isLets_246 : decode cL_isLets 246 = .ok (.goto (-43), 3) := by decide +kernel
theorem dL_isLets_249 : decode cL_isLets 249 = .ok (.iinc 5 1, 3) := by decide +kernel
theorem dL_isLets_252 : decode cL_isLets 252 = .ok (.goto (-66), 3) := by decide +kernel
theorem dL_isLets_255 : decode cL_isLets 255 = .ok (.iload 4, 2) := by decide +kernel
theorem dL_isLets_257 : decode cL_isLets 257 = .ok (.ireturn, 1) := by decide +kernel
theorem dL_areBills_0 : decode cL_areBills 0 = .ok (.bipush 20, 2) := by decide +kernel
theorem dL_areBills_2 : decode cL_areBills 2 = .ok (.newarray .int, 2) := by decide +kernel
theorem dL_areBills_4 : decode cL_areBills 4 = .ok (.astore 4, 2) := by decide +kernel
theorem dL_areBills_6 : decode cL_areBills 6 = .ok (.bipush 20, 2) := by decide +kernel
theorem dL_areBills_8 : decode cL_areBills 8 = .ok (.newarray .int, 2) := by decide +kernel
theorem dL_areBills_10 : decode cL_areBills 10 = .ok (.astore 5, 2) := by decide +kernel
theorem dL_areBills_12 : decode cL_areBills 12 = .ok (.bipush 20, 2) := by decide +kernel
theorem dL_areBills_14 : decode cL_areBills 14 = .ok (.newarray .int, 2) := by decide +kernel
theorem dL_areBills_16 : decode cL_areBills 16 = .ok (.astore 6, 2) := by decide +kernel
theorem dL_areBills_18 : decode cL_areBills 18 = .ok (.iconst 0, 1) := by decide +kernel
theorem dL_areBills_19 : decode cL_areBills 19 = .ok (.istore 7, 2) := by decide +kernel
theorem dL_areBills_21 : decode cL_areBills 21 = .ok (.iload 7, 2) := by decide +kernel
theorem dL_areBills_23 : decode cL_areBills 23 = .ok (.aload_n 1, 1) := by decide +kernel
theorem dL_areBills_24 : decode cL_areBills 24 = .ok (.bipush 11, 2) := by decide +kernel
theorem dL_areBills_26 : decode cL_areBills 26 = .ok (.iaload, 1) := by decide +kernel
theorem dL_areBills_27 : decode cL_areBills 27 = .ok (.if_icmp .ge 82, 3) := by decide +kernel
theorem dL_areBills_30 : decode cL_areBills 30 = .ok (.aload_n 2, 1) := by decide +kernel
theorem dL_areBills_31 : decode cL_areBills 31 = .ok (.bipush 11, 2) := by decide +kernel
theorem dL_areBills_33 : decode cL_areBills 33 = .ok (.iload 7, 2) := by decide +kernel
theorem dL_areBills_35 : decode cL_areBills 35 = .ok (.imul, 1) := by decide +kernel
theorem dL_areBills_36 : decode cL_areBills 36 = .ok (.iconst 5, 1) := by decide +kernel
theorem dL_areBills_37 : decode cL_areBills 37 = .ok (.iadd, 1) := by decide +kernel
theorem dL_areBills_38 : decode cL_areBills 38 = .ok (.iaload, 1) := by decide +kernel
theorem dL_areBills_39 : decode cL_areBills 39 = .ok (.istore 8, 2) := by decide +kernel
theorem dL_areBills_41 : decode cL_areBills 41 = .ok (.aload 4, 2) := by decide +kernel
theorem dL_areBills_43 : decode cL_areBills 43 = .ok (.iload 8, 2) := by decide +kernel
theorem dL_areBills_45 : decode cL_areBills 45 = .ok (.dup2, 1) := by decide +kernel
theorem dL_areBills_46 : decode cL_areBills 46 = .ok (.iaload, 1) := by decide +kernel
theorem dL_areBills_47 : decode cL_areBills 47 = .ok (.iconst 1, 1) := by decide +kernel
theorem dL_areBills_48 : decode cL_areBills 48 = .ok (.iadd, 1) := by decide +kernel
theorem dL_areBills_49 : decode cL_areBills 49 = .ok (.iastore, 1) := by decide +kernel
theorem dL_areBills_50 : decode cL_areBills 50 = .ok (.aload 5, 2) := by decide +kernel
theorem dL_areBills_52 : decode cL_areBills 52 = .ok (.iload 8, 2) := by decide +kernel
theorem dL_areBills_54 : decode cL_areBills 54 = .ok (.dup2, 1) := by decide +kernel
theorem dL_areBills_55 : decode cL_areBills 55 = .ok (.iaload, 1) := by decide +kernel
theorem dL_areBills_56 : decode cL_areBills 56 = .ok (.aload_n 2, 1) := by decide +kernel
theorem dL_areBills_57 : decode cL_areBills 57 = .ok (.bipush 11, 2) := by decide +kernel
theorem dL_areBills_59 : decode cL_areBills 59 = .ok (.iload 7, 2) := by decide +kernel
theorem dL_areBills_61 : decode cL_areBills 61 = .ok (.imul, 1) := by decide +kernel
theorem dL_areBills_62 : decode cL_areBills 62 = .ok (.bipush 9, 2) := by decide +kernel
theorem dL_areBills_64 : decode cL_areBills 64 = .ok (.iadd, 1) := by decide +kernel
theorem dL_areBills_65 : decode cL_areBills 65 = .ok (.iaload, 1) := by decide +kernel
theorem dL_areBills_66 : decode cL_areBills 66 = .ok (.invokestatic 62, 3) := by decide +kernel
theorem dL_areBills_69 : decode cL_areBills 69 = .ok (.iadd, 1) := by decide +kernel
theorem dL_areBills_70 : decode cL_areBills 70 = .ok (.iastore, 1) := by decide +kernel
theorem dL_areBills_71 : decode cL_areBills 71 = .ok (.aload 6, 2) := by decide +kernel
theorem dL_areBills_73 : decode cL_areBills 73 = .ok (.iload 8, 2) := by decide +kernel
theorem dL_areBills_75 : decode cL_areBills 75 = .ok (.dup2, 1) := by decide +kernel
theorem dL_areBills_76 : decode cL_areBills 76 = .ok (.iaload, 1) := by decide +kernel
theorem dL_areBills_77 : decode cL_areBills 77 = .ok (.aload_n 2, 1) := by decide +kernel
theorem dL_areBills_78 : decode cL_areBills 78 = .ok (.bipush 11, 2) := by decide +kernel
theorem dL_areBills_80 : decode cL_areBills 80 = .ok (.iload 7, 2) := by decide +kernel
theorem dL_areBills_82 : decode cL_areBills 82 = .ok (.imul, 1) := by decide +kernel
theorem dL_areBills_83 : decode cL_areBills 83 = .ok (.bipush 9, 2) := by decide +kernel
theorem dL_areBills_85 : decode cL_areBills 85 = .ok (.iadd, 1) := by decide +kernel
theorem dL_areBills_86 : decode cL_areBills 86 = .ok (.iaload, 1) := by decide +kernel
theorem dL_areBills_87 : decode cL_areBills 87 = .ok (.invokestatic 62, 3) := by decide +kernel
theorem dL_areBills_90 : decode cL_areBills 90 = .ok (.aload_n 2, 1) := by decide +kernel
theorem dL_areBills_91 : decode cL_areBills 91 = .ok (.bipush 11, 2) := by decide +kernel
theorem dL_areBills_93 : decode cL_areBills 93 = .ok (.iload 7, 2) := by decide +kernel
theorem dL_areBills_95 : decode cL_areBills 95 = .ok (.imul, 1) := by decide +kernel
theorem dL_areBills_96 : decode cL_areBills 96 = .ok (.bipush 6, 2) := by decide +kernel
theorem dL_areBills_98 : decode cL_areBills 98 = .ok (.iadd, 1) := by decide +kernel
theorem dL_areBills_99 : decode cL_areBills 99 = .ok (.iaload, 1) := by decide +kernel
theorem dL_areBills_100 : decode cL_areBills 100 = .ok (.imul, 1) := by decide +kernel
theorem dL_areBills_101 : decode cL_areBills 101 = .ok (.iadd, 1) := by decide +kernel
theorem dL_areBills_102 : decode cL_areBills 102 = .ok (.iastore, 1) := by decide +kernel
theorem dL_areBills_103 : decode cL_areBills 103 = .ok (.iinc 7 1, 3) := by decide +kernel
theorem dL_areBills_106 : decode cL_areBills 106 = .ok (.goto (-85), 3) := by decide +kernel
theorem dL_areBills_109 : decode cL_areBills 109 = .ok (.iconst 0, 1) := by decide +kernel
theorem dL_areBills_110 : decode cL_areBills 110 = .ok (.istore 7, 2) := by decide +kernel
theorem dL_areBills_112 : decode cL_areBills 112 = .ok (.iload 7, 2) := by decide +kernel
theorem dL_areBills_114 : decode cL_areBills 114 = .ok (.aload_n 1, 1) := by decide +kernel
theorem dL_areBills_115 : decode cL_areBills 115 = .ok (.bipush 12, 2) := by decide +kernel
theorem dL_areBills_117 : decode cL_areBills 117 = .ok (.iaload, 1) := by decide +kernel
theorem dL_areBills_118 : decode cL_areBills 118 = .ok (.if_icmp .ge 66, 3) := by decide +kernel
theorem dL_areBills_121 : decode cL_areBills 121 = .ok (.aload 4, 2) := by decide +kernel
theorem dL_areBills_123 : decode cL_areBills 123 = .ok (.aload_n 3, 1) := by decide +kernel
theorem dL_areBills_124 : decode cL_areBills 124 = .ok (.bipush 7, 2) := by decide +kernel
theorem dL_areBills_126 : decode cL_areBills 126 = .ok (.iload 7, 2) := by decide +kernel
theorem dL_areBills_128 : decode cL_areBills 128 = .ok (.imul, 1) := by decide +kernel
theorem dL_areBills_129 : decode cL_areBills 129 = .ok (.iconst 5, 1) := by decide +kernel
theorem dL_areBills_130 : decode cL_areBills 130 = .ok (.iadd, 1) := by decide +kernel
theorem dL_areBills_131 : decode cL_areBills 131 = .ok (.iaload, 1) := by decide +kernel
theorem dL_areBills_132 : decode cL_areBills 132 = .ok (.dup2, 1) := by decide +kernel
theorem dL_areBills_133 : decode cL_areBills 133 = .ok (.iaload, 1) := by decide +kernel
theorem dL_areBills_134 : decode cL_areBills 134 = .ok (.iconst 1, 1) := by decide +kernel
theorem dL_areBills_135 : decode cL_areBills 135 = .ok (.iadd, 1) := by decide +kernel
theorem dL_areBills_136 : decode cL_areBills 136 = .ok (.iastore, 1) := by decide +kernel
theorem dL_areBills_137 : decode cL_areBills 137 = .ok (.aload 5, 2) := by decide +kernel
theorem dL_areBills_139 : decode cL_areBills 139 = .ok (.aload_n 3, 1) := by decide +kernel
theorem dL_areBills_140 : decode cL_areBills 140 = .ok (.bipush 7, 2) := by decide +kernel
theorem dL_areBills_142 : decode cL_areBills 142 = .ok (.iload 7, 2) := by decide +kernel
theorem dL_areBills_144 : decode cL_areBills 144 = .ok (.imul, 1) := by decide +kernel
theorem dL_areBills_145 : decode cL_areBills 145 = .ok (.iconst 5, 1) := by decide +kernel
theorem dL_areBills_146 : decode cL_areBills 146 = .ok (.iadd, 1) := by decide +kernel
theorem dL_areBills_147 : decode cL_areBills 147 = .ok (.iaload, 1) := by decide +kernel
theorem dL_areBills_148 : decode cL_areBills 148 = .ok (.dup2, 1) := by decide +kernel
theorem dL_areBills_149 : decode cL_areBills 149 = .ok (.iaload, 1) := by decide +kernel
theorem dL_areBills_150 : decode cL_areBills 150 = .ok (.iconst 1, 1) := by decide +kernel
theorem dL_areBills_151 : decode cL_areBills 151 = .ok (.iadd, 1) := by decide +kernel
theorem dL_areBills_152 : decode cL_areBills 152 = .ok (.iastore, 1) := by decide +kernel
theorem dL_areBills_153 : decode cL_areBills 153 = .ok (.aload 6, 2) := by decide +kernel
theorem dL_areBills_155 : decode cL_areBills 155 = .ok (.aload_n 3, 1) := by decide +kernel
theorem dL_areBills_156 : decode cL_areBills 156 = .ok (.bipush 7, 2) := by decide +kernel
theorem dL_areBills_158 : decode cL_areBills 158 = .ok (.iload 7, 2) := by decide +kernel
theorem dL_areBills_160 : decode cL_areBills 160 = .ok (.imul, 1) := by decide +kernel
theorem dL_areBills_161 : decode cL_areBills 161 = .ok (.iconst 5, 1) := by decide +kernel
theorem dL_areBills_162 : decode cL_areBills 162 = .ok (.iadd, 1) := by decide +kernel
theorem dL_areBills_163 : decode cL_areBills 163 = .ok (.iaload, 1) := by decide +kernel
theorem dL_areBills_164 : decode cL_areBills 164 = .ok (.dup2, 1) := by decide +kernel
theorem dL_areBills_165 : decode cL_areBills 165 = .ok (.iaload, 1) := by decide +kernel
theorem dL_areBills_166 : decode cL_areBills 166 = .ok (.aload_n 3, 1) := by decide +kernel
theorem dL_areBills_167 : decode cL_areBills 167 = .ok (.bipush 7, 2) := by decide +kernel
theorem dL_areBills_169 : decode cL_areBills 169 = .ok (.iload 7, 2) := by decide +kernel
theorem dL_areBills_171 : decode cL_areBills 171 = .ok (.imul, 1) := by decide +kernel
theorem dL_areBills_172 : decode cL_areBills 172 = .ok (.bipush 6, 2) := by decide +kernel
theorem dL_areBills_174 : decode cL_areBills 174 = .ok (.iadd, 1) := by decide +kernel
theorem dL_areBills_175 : decode cL_areBills 175 = .ok (.iaload, 1) := by decide +kernel
theorem dL_areBills_176 : decode cL_areBills 176 = .ok (.iadd, 1) := by decide +kernel
theorem dL_areBills_177 : decode cL_areBills 177 = .ok (.iastore, 1) := by decide +kernel
theorem dL_areBills_178 : decode cL_areBills 178 = .ok (.iinc 7 1, 3) := by decide +kernel
theorem dL_areBills_181 : decode cL_areBills 181 = .ok (.goto (-69), 3) := by decide +kernel
theorem dL_areBills_184 : decode cL_areBills 184 = .ok (.iconst (-1), 1) := by decide +kernel
theorem dL_areBills_185 : decode cL_areBills 185 = .ok (.istore 7, 2) := by decide +kernel
theorem dL_areBills_187 : decode cL_areBills 187 = .ok (.iconst 0, 1) := by decide +kernel
theorem dL_areBills_188 : decode cL_areBills 188 = .ok (.istore 8, 2) := by decide +kernel
theorem dL_areBills_190 : decode cL_areBills 190 = .ok (.iconst 0, 1) := by decide +kernel
theorem dL_areBills_191 : decode cL_areBills 191 = .ok (.istore 9, 2) := by decide +kernel
theorem dL_areBills_193 : decode cL_areBills 193 = .ok (.iconst 1, 1) := by decide +kernel
theorem dL_areBills_194 : decode cL_areBills 194 = .ok (.istore 10, 2) := by decide +kernel
theorem dL_areBills_196 : decode cL_areBills 196 = .ok (.iconst 0, 1) := by decide +kernel
theorem dL_areBills_197 : decode cL_areBills 197 = .ok (.istore 11, 2) := by decide +kernel
theorem dL_areBills_199 : decode cL_areBills 199 = .ok (.iload 11, 2) := by decide +kernel
theorem dL_areBills_201 : decode cL_areBills 201 = .ok (.bipush 20, 2) := by decide +kernel
theorem dL_areBills_203 : decode cL_areBills 203 = .ok (.if_icmp .ge 117, 3) := by decide +kernel
theorem dL_areBills_206 : decode cL_areBills 206 = .ok (.iload 10, 2) := by decide +kernel
theorem dL_areBills_208 : decode cL_areBills 208 = .ok (.ifCond .eq 52, 3) := by decide +kernel
theorem dL_areBills_211 : decode cL_areBills 211 = .ok (.aload_n 0, 1) := by decide +kernel
theorem dL_areBills_212 : decode cL_areBills 212 = .ok (.iload 11, 2) := by decide +kernel
theorem dL_areBills_214 : decode cL_areBills 214 = .ok (.iconst 0, 1) := by decide +kernel
theorem dL_areBills_215 : decode cL_areBills 215 = .ok (.invokevirtual 85, 3) := by decide +kernel
theorem dL_areBills_218 : decode cL_areBills 218 = .ok (.aload 4, 2) := by decide +kernel
theorem dL_areBills_220 : decode cL_areBills 220 = .ok (.iload 11, 2) := by decide +kernel
theorem dL_areBills_222 : decode cL_areBills 222 = .ok (.iaload, 1) := by decide +kernel
theorem dL_areBills_223 : decode cL_areBills 223 = .ok (.if_icmp .ne 37, 3) := by decide +kernel
theorem dL_areBills_226 : decode cL_areBills 226 = .ok (.aload_n 0, 1) := by decide +kernel
theorem dL_areBills_227 : decode cL_areBills 227 = .ok (.iload 11, 2) := by decide +kernel
theorem dL_areBills_229 : decode cL_areBills 229 = .ok (.iconst 1, 1) := by decide +kernel
theorem dL_areBills_230 : decode cL_areBills 230 = .ok (.invokevirtual 85, 3) := by decide +kernel
theorem dL_areBills_233 : decode cL_areBills 233 = .ok (.aload 5, 2) := by decide +kernel
theorem dL_areBills_235 : decode cL_areBills 235 = .ok (.iload 11, 2) := by decide +kernel
theorem dL_areBills_237 : decode cL_areBills 237 = .ok (.iaload, 1) := by decide +kernel
theorem dL_areBills_238 : decode cL_areBills 238 = .ok (.if_icmp .ne 22, 3) := by decide +kernel
theorem dL_areBills_241 : decode cL_areBills 241 = .ok (.aload_n 0, 1) := by decide +kernel
theorem dL_areBills_242 : decode cL_areBills 242 = .ok (.iload 11, 2) := by decide +kernel
theorem dL_areBills_244 : decode cL_areBills 244 = .ok (.iconst 2, 1) := by decide +kernel
theorem dL_areBills_245 : decode cL_areBills 245 = .ok (.invokevirtual 85, 3) := by decide +kernel
theorem dL_areBills_248 : decode cL_areBills 248 = .ok (.aload 6, 2) := by decide +kernel
theorem dL_areBills_250 : decode cL_areBills 250 = .ok (.iload 11, 2) := by decide +kernel
theorem dL_areBills_252 : decode cL_areBills 252 = .ok (.iaload, 1) := by decide +kernel
theorem dL_areBills_253 : decode cL_areBills 253 = .ok (.if_icmp .ne 7, 3) := by decide +kernel
theorem dL_areBills_256 : decode cL_areBills 256 = .ok (.iconst 1, 1) := by decide +kernel
theorem dL_areBills_257 : decode cL_areBills 257 = .ok (.goto 4, 3) := by decide +kernel
theorem dL_areBills_260 : decode cL_areBills 260 = .ok (.iconst 0, 1) := by decide +kernel
theorem dL_areBills_261 : decode cL_areBills 261 = .ok (.istore 10, 2) := by decide +kernel
theorem dL_areBills_263 : decode cL_areBills 263 = .ok (.iload 8, 2) := by decide +kernel
theorem dL_areBills_265 : decode cL_areBills 265 = .ok (.aload 5, 2) := by decide +kernel
theorem dL_areBills_267 : decode cL_areBills 267 = .ok (.iload 11, 2) := by decide +kernel
theorem dL_areBills_269 : decode cL_areBills 269 = .ok (.iaload, 1) := by decide +kernel
theorem dL_areBills_270 : decode cL_areBills 270 = .ok (.iadd, 1) := by decide +kernel
theorem dL_areBills_271 : decode cL_areBills 271 = .ok (.istore 8, 2) := by decide +kernel
theorem dL_areBills_273 : decode cL_areBills 273 = .ok (.iload 9, 2) := by decide +kernel
theorem dL_areBills_275 : decode cL_areBills 275 = .ok (.aload 6, 2) := by decide +kernel
theorem dL_areBills_277 : decode cL_areBills 277 = .ok (.iload 11, 2) := by decide +kernel
theorem dL_areBills_279 : decode cL_areBills 279 = .ok (.iaload, 1) := by decide +kernel
theorem dL_areBills_280 : decode cL_areBills 280 = .ok (.iadd, 1) := by decide +kernel
theorem dL_areBills_281 : decode cL_areBills 281 = .ok (.istore 9, 2) := by decide +kernel
theorem dL_areBills_283 : decode cL_areBills 283 = .ok (.aload 6, 2) := by decide +kernel
theorem dL_areBills_285 : decode cL_areBills 285 = .ok (.iload 11, 2) := by decide +kernel
theorem dL_areBills_287 : decode cL_areBills 287 = .ok (.iaload, 1) := by decide +kernel
theorem dL_areBills_288 : decode cL_areBills 288 = .ok (.iload 7, 2) := by decide +kernel
theorem dL_areBills_290 : decode cL_areBills 290 = .ok (.ifCond .ge 7, 3) := by decide +kernel
theorem dL_areBills_293 : decode cL_areBills 293 = .ok (.iconst 0, 1) := by decide +kernel
theorem dL_areBills_294 : decode cL_areBills 294 = .ok (.goto 8, 3) := by decide +kernel
theorem dL_areBills_297 : decode cL_areBills 297 = .ok (.aload 6, 2) := by decide +kernel
theorem dL_areBills_299 : decode cL_areBills 299 = .ok (.iload 7, 2) := by decide +kernel
theorem dL_areBills_301 : decode cL_areBills 301 = .ok (.iaload, 1) := by decide +kernel
theorem dL_areBills_302 : decode cL_areBills 302 = .ok (.if_icmp .le 8, 3) := by decide +kernel
theorem dL_areBills_305 : decode cL_areBills 305 = .ok (.iload 11, 2) := by decide +kernel
theorem dL_areBills_307 : decode cL_areBills 307 = .ok (.goto 5, 3) := by decide +kernel
theorem dL_areBills_310 : decode cL_areBills 310 = .ok (.iload 7, 2) := by decide +kernel
theorem dL_areBills_312 : decode cL_areBills 312 = .ok (.istore 7, 2) := by decide +kernel
theorem dL_areBills_314 : decode cL_areBills 314 = .ok (.iinc 11 1, 3) := by decide +kernel
theorem dL_areBills_317 : decode cL_areBills 317 = .ok (.goto (-118), 3) := by decide +kernel
theorem dL_areBills_320 : decode cL_areBills 320 = .ok (.iload 10, 2) := by decide +kernel
theorem dL_areBills_322 : decode cL_areBills 322 = .ok (.ifCond .eq 111, 3) := by decide +kernel
theorem dL_areBills_325 : decode cL_areBills 325 = .ok (.aload_n 0, 1) := by decide +kernel
theorem dL_areBills_326 : decode cL_areBills 326 = .ok (.invokevirtual 88, 3) := by decide +kernel
theorem dL_areBills_329 : decode cL_areBills 329 = .ok (.iload 7, 2) := by decide +kernel
theorem dL_areBills_331 : decode cL_areBills 331 = .ok (.if_icmp .ne 102, 3) := by decide +kernel
theorem dL_areBills_334 : decode cL_areBills 334 = .ok (.aload_n 0, 1) := by decide +kernel
theorem dL_areBills_335 : decode cL_areBills 335 = .ok (.iconst 0, 1) := by decide +kernel
theorem dL_areBills_336 : decode cL_areBills 336 = .ok (.invokevirtual 51, 3) := by decide +kernel
theorem dL_areBills_339 : decode cL_areBills 339 = .ok (.aload_n 1, 1) := by decide +kernel
theorem dL_areBills_340 : decode cL_areBills 340 = .ok (.bipush 11, 2) := by decide +kernel
theorem dL_areBills_342 : decode cL_areBills 342 = .ok (.iaload, 1) := by decide +kernel
theorem dL_areBills_343 : decode cL_areBills 343 = .ok (.if_icmp .ne 90, 3) := by decide +kernel
theorem dL_areBills_346 : decode cL_areBills 346 = .ok (.aload_n 0, 1) := by decide +kernel
theorem dL_areBills_347 : decode cL_areBills 347 = .ok (.iconst 1, 1) := by decide +kernel
theorem dL_areBills_348 : decode cL_areBills 348 = .ok (.invokevirtual 51, 3) := by decide +kernel
theorem dL_areBills_351 : decode cL_areBills 351 = .ok (.aload_n 1, 1) := by decide +kernel
theorem dL_areBills_352 : decode cL_areBills 352 = .ok (.bipush 12, 2) := by decide +kernel
theorem dL_areBills_354 : decode cL_areBills 354 = .ok (.iaload, 1) := by decide +kernel
theorem dL_areBills_355 : decode cL_areBills 355 = .ok (.if_icmp .ne 78, 3) := by decide +kernel
theorem dL_areBills_358 : decode cL_areBills 358 = .ok (.aload_n 0, 1) := by decide +kernel
theorem dL_areBills_359 : decode cL_areBills 359 = .ok (.iconst 2, 1) := by decide +kernel
theorem dL_areBills_360 : decode cL_areBills 360 = .ok (.invokevirtual 51, 3) := by decide +kernel
theorem dL_areBills_363 : decode cL_areBills 363 = .ok (.iload 8, 2) := by decide +kernel
theorem dL_areBills_365 : decode cL_areBills 365 = .ok (.if_icmp .ne 68, 3) := by decide +kernel
theorem dL_areBills_368 : decode cL_areBills 368 = .ok (.aload_n 0, 1) := by decide +kernel
theorem dL_areBills_369 : decode cL_areBills 369 = .ok (.iconst 3, 1) := by decide +kernel
theorem dL_areBills_370 : decode cL_areBills 370 = .ok (.invokevirtual 51, 3) := by decide +kernel
theorem dL_areBills_373 : decode cL_areBills 373 = .ok (.iload 9, 2) := by decide +kernel
theorem dL_areBills_375 : decode cL_areBills 375 = .ok (.if_icmp .ne 58, 3) := by decide +kernel
theorem dL_areBills_378 : decode cL_areBills 378 = .ok (.aload_n 0, 1) := by decide +kernel
theorem dL_areBills_379 : decode cL_areBills 379 = .ok (.iconst 4, 1) := by decide +kernel
theorem dL_areBills_380 : decode cL_areBills 380 = .ok (.invokevirtual 51, 3) := by decide +kernel
theorem dL_areBills_383 : decode cL_areBills 383 = .ok (.aload_n 1, 1) := by decide +kernel
theorem dL_areBills_384 : decode cL_areBills 384 = .ok (.bipush 8, 2) := by decide +kernel
theorem dL_areBills_386 : decode cL_areBills 386 = .ok (.iaload, 1) := by decide +kernel
theorem dL_areBills_387 : decode cL_areBills 387 = .ok (.if_icmp .ne 46, 3) := by decide +kernel
theorem dL_areBills_390 : decode cL_areBills 390 = .ok (.aload_n 0, 1) := by decide +kernel
theorem dL_areBills_391 : decode cL_areBills 391 = .ok (.iconst 5, 1) := by decide +kernel
theorem dL_areBills_392 : decode cL_areBills 392 = .ok (.invokevirtual 51, 3) := by decide +kernel
theorem dL_areBills_395 : decode cL_areBills 395 = .ok (.aload_n 1, 1) := by decide +kernel
theorem dL_areBills_396 : decode cL_areBills 396 = .ok (.bipush 9, 2) := by decide +kernel
theorem dL_areBills_398 : decode cL_areBills 398 = .ok (.iaload, 1) := by decide +kernel
theorem dL_areBills_399 : decode cL_areBills 399 = .ok (.if_icmp .ne 34, 3) := by decide +kernel
theorem dL_areBills_402 : decode cL_areBills 402 = .ok (.aload_n 1, 1) := by decide +kernel
theorem dL_areBills_403 : decode cL_areBills 403 = .ok (.bipush 8, 2) := by decide +kernel
theorem dL_areBills_405 : decode cL_areBills 405 = .ok (.iaload, 1) := by decide +kernel
theorem dL_areBills_406 : decode cL_areBills 406 = .ok (.aload_n 1, 1) := by decide +kernel
theorem dL_areBills_407 : decode cL_areBills 407 = .ok (.bipush 9, 2) := by decide +kernel
theorem dL_areBills_409 : decode cL_areBills 409 = .ok (.iaload, 1) := by decide +kernel
theorem dL_areBills_410 : decode cL_areBills 410 = .ok (.isub, 1) := by decide +kernel
theorem dL_areBills_411 : decode cL_areBills 411 = .ok (.iload 9, 2) := by decide +kernel
theorem dL_areBills_413 : decode cL_areBills 413 = .ok (.if_icmp .ne 20, 3) := by decide +kernel
theorem dL_areBills_416 : decode cL_areBills 416 = .ok (.aload_n 0, 1) := by decide +kernel
theorem dL_areBills_417 : decode cL_areBills 417 = .ok (.bipush 6, 2) := by decide +kernel
theorem dL_areBills_419 : decode cL_areBills 419 = .ok (.invokevirtual 51, 3) := by decide +kernel
theorem dL_areBills_422 : decode cL_areBills 422 = .ok (.aload_n 1, 1) := by decide +kernel
theorem dL_areBills_423 : decode cL_areBills 423 = .ok (.bipush 10, 2) := by decide +kernel
theorem dL_areBills_425 : decode cL_areBills 425 = .ok (.iaload, 1) := by decide +kernel
theorem dL_areBills_426 : decode cL_areBills 426 = .ok (.if_icmp .ne 7, 3) := by decide +kernel
theorem dL_areBills_429 : decode cL_areBills 429 = .ok (.iconst 1, 1) := by decide +kernel
theorem dL_areBills_430 : decode cL_areBills 430 = .ok (.goto 4, 3) := by decide +kernel
theorem dL_areBills_433 : decode cL_areBills 433 = .ok (.iconst 0, 1) := by decide +kernel
theorem dL_areBills_434 : decode cL_areBills 434 = .ok (.istore 10, 2) := by decide +kernel
theorem dL_areBills_436 : decode cL_areBills 436 = .ok (.iload 10, 2) := by decide +kernel
theorem dL_areBills_438 : decode cL_areBills 438 = .ok (.ifCond .eq 81, 3) := by decide +kernel
theorem dL_areBills_441 : decode cL_areBills 441 = .ok (.aload_n 0, 1) := by decide +kernel
theorem dL_areBills_442 : decode cL_areBills 442 = .ok (.bipush 7, 2) := by decide +kernel
theorem dL_areBills_444 : decode cL_areBills 444 = .ok (.invokevirtual 51, 3) := by decide +kernel
theorem dL_areBills_447 : decode cL_areBills 447 = .ok (.aload_n 1, 1) := by decide +kernel
theorem dL_areBills_448 : decode cL_areBills 448 = .ok (.iconst 0, 1) := by decide +kernel
theorem dL_areBills_449 : decode cL_areBills 449 = .ok (.iaload, 1) := by decide +kernel
theorem dL_areBills_450 : decode cL_areBills 450 = .ok (.if_icmp .ne 69, 3) := by decide +kernel
theorem dL_areBills_453 : decode cL_areBills 453 = .ok (.aload_n 0, 1) := by decide +kernel
theorem dL_areBills_454 : decode cL_areBills 454 = .ok (.bipush 8, 2) := by decide +kernel
theorem dL_areBills_456 : decode cL_areBills 456 = .ok (.invokevirtual 51, 3) := by decide +kernel
theorem dL_areBills_459 : decode cL_areBills 459 = .ok (.aload_n 1, 1) := by decide +kernel
theorem dL_areBills_460 : decode cL_areBills 460 = .ok (.iconst 1, 1) := by decide +kernel
theorem dL_areBills_461 : decode cL_areBills 461 = .ok (.iaload, 1) := by decide +kernel
theorem dL_areBills_462 : decode cL_areBills 462 = .ok (.if_icmp .ne 57, 3) := by decide +kernel
theorem dL_areBills_465 : decode cL_areBills 465 = .ok (.aload_n 0, 1) := by decide +kernel
theorem dL_areBills_466 : decode cL_areBills 466 = .ok (.bipush 9, 2) := by decide +kernel
theorem dL_areBills_468 : decode cL_areBills 468 = .ok (.invokevirtual 51, 3) := by decide +kernel
theorem dL_areBills_471 : decode cL_areBills 471 = .ok (.aload_n 1, 1) := by decide +kernel
theorem dL_areBills_472 : decode cL_areBills 472 = .ok (.iconst 2, 1) := by decide +kernel
theorem dL_areBills_473 : decode cL_areBills 473 = .ok (.iaload, 1) := by decide +kernel
theorem dL_areBills_474 : decode cL_areBills 474 = .ok (.if_icmp .ne 45, 3) := by decide +kernel
theorem dL_areBills_477 : decode cL_areBills 477 = .ok (.aload_n 0, 1) := by decide +kernel
theorem dL_areBills_478 : decode cL_areBills 478 = .ok (.bipush 10, 2) := by decide +kernel
theorem dL_areBills_480 : decode cL_areBills 480 = .ok (.invokevirtual 51, 3) := by decide +kernel
theorem dL_areBills_483 : decode cL_areBills 483 = .ok (.aload_n 1, 1) := by decide +kernel
theorem dL_areBills_484 : decode cL_areBills 484 = .ok (.iconst 3, 1) := by decide +kernel
theorem dL_areBills_485 : decode cL_areBills 485 = .ok (.iaload, 1) := by decide +kernel
theorem dL_areBills_486 : decode cL_areBills 486 = .ok (.if_icmp .ne 33, 3) := by decide +kernel
theorem dL_areBills_489 : decode cL_areBills 489 = .ok (.aload_n 0, 1) := by decide +kernel
theorem dL_areBills_490 : decode cL_areBills 490 = .ok (.bipush 11, 2) := by decide +kernel
theorem dL_areBills_492 : decode cL_areBills 492 = .ok (.invokevirtual 51, 3) := by decide +kernel
theorem dL_areBills_495 : decode cL_areBills 495 = .ok (.aload_n 1, 1) := by decide +kernel
theorem dL_areBills_496 : decode cL_areBills 496 = .ok (.iconst 4, 1) := by decide +kernel
theorem dL_areBills_497 : decode cL_areBills 497 = .ok (.iaload, 1) := by decide +kernel
theorem dL_areBills_498 : decode cL_areBills 498 = .ok (.if_icmp .ne 21, 3) := by decide +kernel
theorem dL_areBills_501 : decode cL_areBills 501 = .ok (.aload_n 0, 1) := by decide +kernel
theorem dL_areBills_502 : decode cL_areBills 502 = .ok (.invokevirtual 92, 3) := by decide +kernel
theorem dL_areBills_505 : decode cL_areBills 505 = .ok (.iload 9, 2) := by decide +kernel
theorem dL_areBills_507 : decode cL_areBills 507 = .ok (.i2f, 1) := by decide +kernel
theorem dL_areBills_508 : decode cL_areBills 508 = .ok (.ldc 96, 2) := by decide +kernel
theorem dL_areBills_510 : decode cL_areBills 510 = .ok (.fdiv, 1) := by decide +kernel
theorem dL_areBills_511 : decode cL_areBills 511 = .ok (.fcmp .l, 1) := by decide +kernel
theorem dL_areBills_512 : decode cL_areBills 512 = .ok (.ifCond .ne 7, 3) := by decide +kernel
theorem dL_areBills_515 : decode cL_areBills 515 = .ok (.iconst 1, 1) := by decide +kernel
theorem dL_areBills_516 : decode cL_areBills 516 = .ok (.goto 4, 3) := by decide +kernel
theorem dL_areBills_519 : decode cL_areBills 519 = .ok (.iconst 0, 1) := by decide +kernel
theorem dL_areBills_520 : decode cL_areBills 520 = .ok (.ireturn, 1) := by decide +kernel
theorem dL_isDay_0 : decode cL_isDay 0 = .ok (.bipush 24, 2) := by decide +kernel
theorem dL_isDay_2 : decode cL_isDay 2 = .ok (.newarray .int, 2) := by decide +kernel
theorem dL_isDay_4 : decode cL_isDay 4 = .ok (.astore 6, 2) := by decide +kernel
theorem dL_isDay_6 : decode cL_isDay 6 = .ok (.iconst 0, 1) := by decide +kernel
theorem dL_isDay_7 : decode cL_isDay 7 = .ok (.istore 7, 2) := by decide +kernel
theorem dL_isDay_9 : decode cL_isDay 9 = .ok (.iconst 0, 1) := by decide +kernel
theorem dL_isDay_10 : decode cL_isDay 10 = .ok (.istore 8, 2) := by decide +kernel
theorem dL_isDay_12 : decode cL_isDay 12 = .ok (.bipush 24, 2) := by decide +kernel
theorem dL_isDay_14 : decode cL_isDay 14 = .ok (.istore 9, 2) := by decide +kernel
theorem dL_isDay_16 : decode cL_isDay 16 = .ok (.iconst 0, 1) := by decide +kernel
theorem dL_isDay_17 : decode cL_isDay 17 = .ok (.istore 10, 2) := by decide +kernel
theorem dL_isDay_19 : decode cL_isDay 19 = .ok (.iload 10, 2) := by decide +kernel
theorem dL_isDay_21 : decode cL_isDay 21 = .ok (.aload_n 1, 1) := by decide +kernel
theorem dL_isDay_22 : decode cL_isDay 22 = .ok (.bipush 11, 2) := by decide +kernel
theorem dL_isDay_24 : decode cL_isDay 24 = .ok (.iaload, 1) := by decide +kernel
theorem dL_isDay_25 : decode cL_isDay 25 = .ok (.aload_n 1, 1) := by decide +kernel
theorem dL_isDay_26 : decode cL_isDay 26 = .ok (.bipush 12, 2) := by decide +kernel
theorem dL_isDay_28 : decode cL_isDay 28 = .ok (.iaload, 1) := by decide +kernel
theorem dL_isDay_29 : decode cL_isDay 29 = .ok (.iadd, 1) := by decide +kernel
theorem dL_isDay_30 : decode cL_isDay 30 = .ok (.if_icmp .ge 213, 3) := by decide +kernel
theorem dL_isDay_33 : decode cL_isDay 33 = .ok (.iload 10, 2) := by decide +kernel
theorem dL_isDay_35 : decode cL_isDay 35 = .ok (.aload_n 1, 1) := by decide +kernel
theorem dL_isDay_36 : decode cL_isDay 36 = .ok (.bipush 11, 2) := by decide +kernel
theorem dL_isDay_38 : decode cL_isDay 38 = .ok (.iaload, 1) := by decide +kernel
theorem dL_isDay_39 : decode cL_isDay 39 = .ok (.if_icmp .ge 7, 3) := by decide +kernel
theorem dL_isDay_42 : decode cL_isDay 42 = .ok (.iconst 1, 1) := by decide +kernel
theorem dL_isDay_43 : decode cL_isDay 43 = .ok (.goto 4, 3) := by decide +kernel
theorem dL_isDay_46 : decode cL_isDay 46 = .ok (.iconst 0, 1) := by decide +kernel
theorem dL_isDay_47 : decode cL_isDay 47 = .ok (.istore 11, 2) := by decide +kernel
theorem dL_isDay_49 : decode cL_isDay 49 = .ok (.iload 11, 2) := by decide +kernel
theorem dL_isDay_51 : decode cL_isDay 51 = .ok (.ifCond .eq 11, 3) := by decide +kernel
theorem dL_isDay_54 : decode cL_isDay 54 = .ok (.bipush 11, 2) := by decide +kernel
theorem dL_isDay_56 : decode cL_isDay 56 = .ok (.iload 10, 2) := by decide +kernel
theorem dL_isDay_58 : decode cL_isDay 58 = .ok (.imul, 1) := by decide +kernel
theorem dL_isDay_59 : decode cL_isDay 59 = .ok (.goto 13, 3) := by decide +kernel
theorem dL_isDay_62 : decode cL_isDay 62 = .ok (.bipush 7, 2) := by decide +kernel
theorem dL_isDay_64 : decode cL_isDay 64 = .ok (.iload 10, 2) := by decide +kernel
theorem dL_isDay_66 : decode cL_isDay 66 = .ok (.aload_n 1, 1) := by decide +kernel
theorem dL_isDay_67 : decode cL_isDay 67 = .ok (.bipush 11, 2) := by decide +kernel
theorem dL_isDay_69 : decode cL_isDay 69 = .ok (.iaload, 1) := by decide +kernel
theorem dL_isDay_70 : decode cL_isDay 70 = .ok (.isub, 1) := by decide +kernel
theorem dL_isDay_71 : decode cL_isDay 71 = .ok (.imul, 1) := by decide +kernel
theorem dL_isDay_72 : decode cL_isDay 72 = .ok (.istore 12, 2) := by decide +kernel
theorem dL_isDay_74 : decode cL_isDay 74 = .ok (.iload 11, 2) := by decide +kernel
theorem dL_isDay_76 : decode cL_isDay 76 = .ok (.ifCond .eq 23, 3) := by decide +kernel
theorem dL_isDay_79 : decode cL_isDay 79 = .ok (.aload_n 2, 1) := by decide +kernel
theorem dL_isDay_80 : decode cL_isDay 80 = .ok (.iload 10, 2) := by decide +kernel
theorem dL_isDay_82 : decode cL_isDay 82 = .ok (.iload 5, 2) := by decide +kernel
theorem dL_isDay_84 : decode cL_isDay 84 = .ok (.invokestatic 15, 3) := by decide +kernel
theorem dL_isDay_87 : decode cL_isDay 87 = .ok (.ifCond .eq 12, 3) := by decide +kernel
theorem dL_isDay_90 : decode cL_isDay 90 = .ok (.aload_n 2, 1) := by decide +kernel
theorem dL_isDay_91 : decode cL_isDay 91 = .ok (.iload 12, 2) := by decide +kernel
theorem dL_isDay_93 : decode cL_isDay 93 = .ok (.iaload, 1) := by decide +kernel
theorem dL_isDay_94 : decode cL_isDay 94 = .ok (.iload 4, 2) := by decide +kernel
theorem dL_isDay_96 : decode cL_isDay 96 = .ok (.if_icmp .eq 28, 3) := by decide +kernel
theorem dL_isDay_99 : decode cL_isDay 99 = .ok (.iload 11, 2) := by decide +kernel
theorem dL_isDay_101 : decode cL_isDay 101 = .ok (.ifCond .ne 136, 3) := by decide +kernel
theorem dL_isDay_104 : decode cL_isDay 104 = .ok (.aload_n 3, 1) := by decide +kernel
theorem dL_isDay_105 : decode cL_isDay 105 = .ok (.iload 12, 2) := by decide +kernel
theorem dL_isDay_107 : decode cL_isDay 107 = .ok (.iconst 1, 1) := by decide +kernel
theorem dL_isDay_108 : decode cL_isDay 108 = .ok (.iadd, 1) := by decide +kernel
theorem dL_isDay_109 : decode cL_isDay 109 = .ok (.iaload, 1) := by decide +kernel
theorem dL_isDay_110 : decode cL_isDay 110 = .ok (.iload 5, 2) := by decide +kernel
theorem dL_isDay_112 : decode cL_isDay 112 = .ok (.if_icmp .ne 125, 3) := by decide +kernel
theorem dL_isDay_115 : decode cL_isDay 115 = .ok (.aload_n 3, 1) := by decide +kernel
theorem dL_isDay_116 : decode cL_isDay 116 = .ok (.iload 12, 2) := by decide +kernel
theorem dL_isDay_118 : decode cL_isDay 118 = .ok (.iaload, 1) := by decide +kernel
theorem dL_isDay_119 : decode cL_isDay 119 = .ok (.iload 4, 2) := by decide +kernel
theorem dL_isDay_121 : decode cL_isDay 121 = .ok (.if_icmp .ne 116, 3) := by decide +kernel
theorem dL_isDay_124 : decode cL_isDay 124 = .ok (.iinc 7 1, 3) := by decide +kernel
theorem dL_isDay_127 : decode cL_isDay 127 = .ok (.iload 8, 2) := by decide +kernel
theorem dL_isDay_129 : decode cL_isDay 129 = .ok (.iload 11, 2) := by decide +kernel
theorem dL_isDay_131 : decode cL_isDay 131 = .ok (.ifCond .eq 13, 3) := by decide +kernel
theorem dL_isDay_134 : decode cL_isDay 134 = .ok (.aload_n 2, 1) := by decide +kernel
theorem dL_isDay_135 : decode cL_isDay 135 = .ok (.iload 12, 2) := by decide +kernel
theorem dL_isDay_137 : decode cL_isDay 137 = .ok (.bipush 6, 2) := by decide +kernel
theorem dL_isDay_139 : decode cL_isDay 139 = .ok (.iadd, 1) := by decide +kernel
theorem dL_isDay_140 : decode cL_isDay 140 = .ok (.iaload, 1) := by decide +kernel
theorem dL_isDay_141 : decode cL_isDay 141 = .ok (.goto 10, 3) := by decide +kernel
theorem dL_isDay_144 : decode cL_isDay 144 = .ok (.aload_n 3, 1) := by decide +kernel
theorem dL_isDay_145 : decode cL_isDay 145 = .ok (.iload 12, 2) := by decide +kernel
theorem dL_isDay_147 : decode cL_isDay 147 = .ok (.bipush 6, 2) := by decide +kernel
theorem dL_isDay_149 : decode cL_isDay 149 = .ok (.iadd, 1) := by decide +kernel
theorem dL_isDay_150 : decode cL_isDay 150 = .ok (.iaload, 1) := by decide +kernel
theorem dL_isDay_151 : decode cL_isDay 151 = .ok (.iadd, 1) := by decide +kernel
theorem dL_isDay_152 : decode cL_isDay 152 = .ok (.istore 8, 2) := by decide +kernel
theorem dL_isDay_154 : decode cL_isDay 154 = .ok (.iload 11, 2) := by decide +kernel
theorem dL_isDay_156 : decode cL_isDay 156 = .ok (.ifCond .eq 12, 3) := by decide +kernel
theorem dL_isDay_159 : decode cL_isDay 159 = .ok (.aload_n 2, 1) := by decide +kernel
theorem dL_isDay_160 : decode cL_isDay 160 = .ok (.iload 12, 2) := by decide +kernel
theorem dL_isDay_162 : decode cL_isDay 162 = .ok (.iconst 2, 1) := by decide +kernel
theorem dL_isDay_163 : decode cL_isDay 163 = .ok (.iadd, 1) := by decide +kernel
theorem dL_isDay_164 : decode cL_isDay 164 = .ok (.iaload, 1) := by decide +kernel
theorem dL_isDay_165 : decode cL_isDay 165 = .ok (.goto 9, 3) := by decide +kernel
theorem dL_isDay_168 : decode cL_isDay 168 = .ok (.aload_n 3, 1) := by decide +kernel
theorem dL_isDay_169 : decode cL_isDay 169 = .ok (.iload 12, 2) := by decide +kernel
theorem dL_isDay_171 : decode cL_isDay 171 = .ok (.iconst 2, 1) := by decide +kernel
theorem dL_isDay_172 : decode cL_isDay 172 = .ok (.iadd, 1) := by decide +kernel
theorem dL_isDay_173 : decode cL_isDay 173 = .ok (.iaload, 1) := by decide +kernel
theorem dL_isDay_174 : decode cL_isDay 174 = .ok (.istore 13, 2) := by decide +kernel
theorem dL_isDay_176 : decode cL_isDay 176 = .ok (.iload 13, 2) := by decide +kernel
theorem dL_isDay_178 : decode cL_isDay 178 = .ok (.iload 11, 2) := by decide +kernel
theorem dL_isDay_180 : decode cL_isDay 180 = .ok (.ifCond .eq 12, 3) := by decide +kernel
theorem dL_isDay_183 : decode cL_isDay 183 = .ok (.aload_n 2, 1) := by decide +kernel
theorem dL_isDay_184 : decode cL_isDay 184 = .ok (.iload 12, 2) := by decide +kernel
theorem dL_isDay_186 : decode cL_isDay 186 = .ok (.iconst 3, 1) := by decide +kernel
theorem dL_isDay_187 : decode cL_isDay 187 = .ok (.iadd, 1) := by decide +kernel
theorem dL_isDay_188 : decode cL_isDay 188 = .ok (.iaload, 1) := by decide +kernel
theorem dL_isDay_189 : decode cL_isDay 189 = .ok (.goto 9, 3) := by decide +kernel
theorem dL_isDay_192 : decode cL_isDay 192 = .ok (.aload_n 3, 1) := by decide +kernel
theorem dL_isDay_193 : decode cL_isDay 193 = .ok (.iload 12, 2) := by decide +kernel
theorem dL_isDay_195 : decode cL_isDay 195 = .ok (.iconst 3, 1) := by decide +kernel
theorem dL_isDay_196 : decode cL_isDay 196 = .ok (.iadd, 1) := by decide +kernel
theorem dL_isDay_197 : decode cL_isDay 197 = .ok (.iaload, 1) := by decide +kernel
theorem dL_isDay_198 : decode cL_isDay 198 = .ok (.if_icmp .ge 39, 3) := by decide +kernel
theorem dL_isDay_201 : decode cL_isDay 201 = .ok (.aload 6, 2) := by decide +kernel
theorem dL_isDay_203 : decode cL_isDay 203 = .ok (.iload 13, 2) := by decide +kernel
theorem dL_isDay_205 : decode cL_isDay 205 = .ok (.iconst 1, 1) := by decide +kernel
theorem dL_isDay_206 : decode cL_isDay 206 = .ok (.iload 11, 2) := by decide +kernel
theorem dL_isDay_208 : decode cL_isDay 208 = .ok (.ifCond .eq 12, 3) := by decide +kernel
theorem dL_isDay_211 : decode cL_isDay 211 = .ok (.aload_n 2, 1) := by decide +kernel
theorem dL_isDay_212 : decode cL_isDay 212 = .ok (.iload 12, 2) := by decide +kernel
theorem dL_isDay_214 : decode cL_isDay 214 = .ok (.iconst 5, 1) := by decide +kernel
theorem dL_isDay_215 : decode cL_isDay 215 = .ok (.iadd, 1) := by decide +kernel
theorem dL_isDay_216 : decode cL_isDay 216 = .ok (.iaload, 1) := by decide +kernel
theorem dL_isDay_217 : decode cL_isDay 217 = .ok (.goto 9, 3) := by decide +kernel
theorem dL_isDay_220 : decode cL_isDay 220 = .ok (.aload_n 3, 1) := by decide +kernel
theorem dL_isDay_221 : decode cL_isDay 221 = .ok (.iload 12, 2) := by decide +kernel
theorem dL_isDay_223 : decode cL_isDay 223 = .ok (.iconst 5, 1) := by decide +kernel
theorem dL_isDay_224 : decode cL_isDay 224 = .ok (.iadd, 1) := by decide +kernel
theorem dL_isDay_225 : decode cL_isDay 225 = .ok (.iaload, 1) := by decide +kernel
theorem dL_isDay_226 : decode cL_isDay 226 = .ok (.iadd, 1) := by decide +kernel
theorem dL_isDay_227 : decode cL_isDay 227 = .ok (.iastore, 1) := by decide +kernel
theorem dL_isDay_228 : decode cL_isDay 228 = .ok (.iinc 9 (-1), 3) := by decide +kernel
theorem dL_isDay_231 : decode cL_isDay 231 = .ok (.iinc 13 1, 3) := by decide +kernel
theorem dL_isDay_234 : decode cL_isDay 234 = .ok (.goto (-58), 3) := by decide +kernel
theorem dL_isDay_237 : decode cL_isDay 237 = .ok (.iinc 10 1, 3) := by decide +kernel
theorem dL_isDay_240 : decode cL_isDay 240 = .ok (.goto (-221), 3) := by decide +kernel
theorem dL_isDay_243 : decode cL_isDay 243 = .ok (.aload_n 0, 1) := by decide +kernel
theorem dL_isDay_244 : decode cL_isDay 244 = .ok (.iload 4, 2) := by decide +kernel
theorem dL_isDay_246 : decode cL_isDay 246 = .ok (.iload 5, 2) := by decide +kernel
theorem dL_isDay_248 : decode cL_isDay 248 = .ok (.iconst 0, 1) := by decide +kernel
theorem dL_isDay_249 : decode cL_isDay 249 = .ok (.invokevirtual 97, 3) := by decide +kernel
theorem dL_isDay_252 : decode cL_isDay 252 = .ok (.iload 7, 2) := by decide +kernel
theorem dL_isDay_254 : decode cL_isDay 254 = .ok (.if_icmp .ne 49, 3) := by decide +kernel
theorem dL_isDay_257 : decode cL_isDay 257 = .ok (.aload_n 0, 1) := by decide +kernel
theorem dL_isDay_258 : decode cL_isDay 258 = .ok (.iload 4, 2) := by decide +kernel
theorem dL_isDay_260 : decode cL_isDay 260 = .ok (.iload 5, 2) := by decide +kernel
theorem dL_isDay_262 : decode cL_isDay 262 = .ok (.iconst 1, 1) := by decide +kernel
theorem dL_isDay_263 : decode cL_isDay 263 = .ok (.invokevirtual 97, 3) := by decide +kernel
theorem dL_isDay_266 : decode cL_isDay 266 = .ok (.iload 9, 2) := by decide +kernel
theorem dL_isDay_268 : decode cL_isDay 268 = .ok (.if_icmp .ne 35, 3) := by decide +kernel
theorem dL_isDay_271 : decode cL_isDay 271 = .ok (.aload_n 0, 1) := by decide +kernel
theorem dL_isDay_272 : decode cL_isDay 272 = .ok (.iload 4, 2) := by decide +kernel
theorem dL_isDay_274 : decode cL_isDay 274 = .ok (.iload 5, 2) := by decide +kernel
theorem dL_isDay_276 : decode cL_isDay 276 = .ok (.iconst 2, 1) := by decide +kernel
theorem dL_isDay_277 : decode cL_isDay 277 = .ok (.invokevirtual 97, 3) := by decide +kernel
theorem dL_isDay_280 : decode cL_isDay 280 = .ok (.iload 9, 2) := by decide +kernel
theorem dL_isDay_282 : decode cL_isDay 282 = .ok (.if_icmp .ne 21, 3) := by decide +kernel
theorem dL_isDay_285 : decode cL_isDay 285 = .ok (.aload_n 0, 1) := by decide +kernel
theorem dL_isDay_286 : decode cL_isDay 286 = .ok (.iload 4, 2) := by decide +kernel
theorem dL_isDay_288 : decode cL_isDay 288 = .ok (.iload 5, 2) := by decide +kernel
theorem dL_isDay_290 : decode cL_isDay 290 = .ok (.iconst 3, 1) := by decide +kernel
theorem dL_isDay_291 : decode cL_isDay 291 = .ok (.invokevirtual 97, 3) := by decide +kernel
theorem dL_isDay_294 : decode cL_isDay 294 = .ok (.iload 8, 2) := by decide +kernel
theorem dL_isDay_296 : decode cL_isDay 296 = .ok (.if_icmp .ne 7, 3) := by decide +kernel
theorem dL_isDay_299 : decode cL_isDay 299 = .ok (.iconst 1, 1) := by decide +kernel
theorem dL_isDay_300 : decode cL_isDay 300 = .ok (.goto 4, 3) := by decide +kernel
theorem dL_isDay_303 : decode cL_isDay 303 = .ok (.iconst 0, 1) := by decide +kernel
theorem dL_isDay_304 : decode cL_isDay 304 = .ok (.istore 10, 2) := by decide +kernel
theorem dL_isDay_306 : decode cL_isDay 306 = .ok (.iconst 0, 1) := by decide +kernel
theorem dL_isDay_307 : decode cL_isDay 307 = .ok (.istore 11, 2) := by decide +kernel
theorem dL_isDay_309 : decode cL_isDay 309 = .ok (.iload 11, 2) := by decide +kernel
theorem dL_isDay_311 : decode cL_isDay 311 = .ok (.bipush 24, 2) := by decide +kernel
theorem dL_isDay_313 : decode cL_isDay 313 = .ok (.if_icmp .ge 41, 3) := by decide +kernel
theorem dL_isDay_316 : decode cL_isDay 316 = .ok (.iload 10, 2) := by decide +kernel
theorem dL_isDay_318 : decode cL_isDay 318 = .ok (.ifCond .eq 27, 3) := by decide +kernel
theorem dL_isDay_321 : decode cL_isDay 321 = .ok (.aload_n 0, 1) := by decide +kernel
theorem dL_isDay_322 : decode cL_isDay 322 = .ok (.iload 4, 2) := by decide +kernel
theorem dL_isDay_324 : decode cL_isDay 324 = .ok (.iload 5, 2) := by decide +kernel
theorem dL_isDay_326 : decode cL_isDay 326 = .ok (.iload 11, 2) := by decide +kernel
theorem dL_isDay_328 : decode cL_isDay 328 = .ok (.invokevirtual 101, 3) := by decide +kernel
theorem dL_isDay_331 : decode cL_isDay 331 = .ok (.aload 6, 2) := by decide +kernel
theorem dL_isDay_333 : decode cL_isDay 333 = .ok (.iload 11, 2) := by decide +kernel
theorem dL_isDay_335 : decode cL_isDay 335 = .ok (.iaload, 1) := by decide +kernel
theorem dL_isDay_336 : decode cL_isDay 336 = .ok (.iconst 1, 1) := by decide +kernel
theorem dL_isDay_337 : decode cL_isDay 337 = .ok (.isub, 1) := by decide +kernel
theorem dL_isDay_338 : decode cL_isDay 338 = .ok (.if_icmp .ne 7, 3) := by decide +kernel
theorem dL_isDay_341 : decode cL_isDay 341 = .ok (.iconst 1, 1) := by decide +kernel
theorem dL_isDay_342 : decode cL_isDay 342 = .ok (.goto 4, 3) := by decide +kernel
theorem dL_isDay_345 : decode cL_isDay 345 = .ok (.iconst 0, 1) := by decide +kernel
theorem dL_isDay_346 : decode cL_isDay 346 = .ok (.istore 10, 2) := by decide +kernel
theorem dL_isDay_348 : decode cL_isDay 348 = .ok (.iinc 11 1, 3) := by decide +kernel
theorem dL_isDay_351 : decode cL_isDay 351 = .ok (.goto (-42), 3) := by decide +kernel
theorem dL_isDay_354 : decode cL_isDay 354 = .ok (.iload 10, 2) := by decide +kernel
theorem dL_isDay_356 : decode cL_isDay 356 = .ok (.ireturn, 1) := by decide +kernel
theorem dL_isFull_0 : decode cL_isFull 0 = .ok (.iconst 0, 1) := by decide +kernel
theorem dL_isFull_1 : decode cL_isFull 1 = .ok (.istore 5, 2) := by decide +kernel
theorem dL_isFull_3 : decode cL_isFull 3 = .ok (.iconst 0, 1) := by decide +kernel
theorem dL_isFull_4 : decode cL_isFull 4 = .ok (.istore 6, 2) := by decide +kernel
theorem dL_isFull_6 : decode cL_isFull 6 = .ok (.iload 6, 2) := by decide +kernel
theorem dL_isFull_8 : decode cL_isFull 8 = .ok (.aload_n 1, 1) := by decide +kernel
theorem dL_isFull_9 : decode cL_isFull 9 = .ok (.bipush 11, 2) := by decide +kernel
theorem dL_isFull_11 : decode cL_isFull 11 = .ok (.iaload, 1) := by decide +kernel
theorem dL_isFull_12 : decode cL_isFull 12 = .ok (.if_icmp .ge 63, 3) := by decide +kernel
theorem dL_isFull_15 : decode cL_isFull 15 = .ok (.iload 5, 2) := by decide +kernel
theorem dL_isFull_17 : decode cL_isFull 17 = .ok (.aload_n 2, 1) := by decide +kernel
theorem dL_isFull_18 : decode cL_isFull 18 = .ok (.bipush 11, 2) := by decide +kernel
theorem dL_isFull_20 : decode cL_isFull 20 = .ok (.iload 6, 2) := by decide +kernel
theorem dL_isFull_22 : decode cL_isFull 22 = .ok (.imul, 1) := by decide +kernel
theorem dL_isFull_23 : decode cL_isFull 23 = .ok (.iaload, 1) := by decide +kernel
theorem dL_isFull_24 : decode cL_isFull 24 = .ok (.iload 4, 2) := by decide +kernel
theorem dL_isFull_26 : decode cL_isFull 26 = .ok (.if_icmp .ne 39, 3) := by decide +kernel
theorem dL_isFull_29 : decode cL_isFull 29 = .ok (.aload_n 2, 1) := by decide +kernel
theorem dL_isFull_30 : decode cL_isFull 30 = .ok (.bipush 11, 2) := by decide +kernel
theorem dL_isFull_32 : decode cL_isFull 32 = .ok (.iload 6, 2) := by decide +kernel
theorem dL_isFull_34 : decode cL_isFull 34 = .ok (.imul, 1) := by decide +kernel
theorem dL_isFull_35 : decode cL_isFull 35 = .ok (.bipush 9, 2) := by decide +kernel
theorem dL_isFull_37 : decode cL_isFull 37 = .ok (.iadd, 1) := by decide +kernel
theorem dL_isFull_38 : decode cL_isFull 38 = .ok (.iaload, 1) := by decide +kernel
theorem dL_isFull_39 : decode cL_isFull 39 = .ok (.invokestatic 62, 3) := by decide +kernel
theorem dL_isFull_42 : decode cL_isFull 42 = .ok (.aload_n 2, 1) := by decide +kernel
theorem dL_isFull_43 : decode cL_isFull 43 = .ok (.bipush 11, 2) := by decide +kernel
theorem dL_isFull_45 : decode cL_isFull 45 = .ok (.iload 6, 2) := by decide +kernel
theorem dL_isFull_47 : decode cL_isFull 47 = .ok (.imul, 1) := by decide +kernel
theorem dL_isFull_48 : decode cL_isFull 48 = .ok (.iconst 3, 1) := by decide +kernel
theorem dL_isFull_49 : decode cL_isFull 49 = .ok (.iadd, 1) := by decide +kernel
theorem dL_isFull_50 : decode cL_isFull 50 = .ok (.iaload, 1) := by decide +kernel
theorem dL_isFull_51 : decode cL_isFull 51 = .ok (.aload_n 2, 1) := by decide +kernel
theorem dL_isFull_52 : decode cL_isFull 52 = .ok (.bipush 11, 2) := by decide +kernel
theorem dL_isFull_54 : decode cL_isFull 54 = .ok (.iload 6, 2) := by decide +kernel
theorem dL_isFull_56 : decode cL_isFull 56 = .ok (.imul, 1) := by decide +kernel
theorem dL_isFull_57 : decode cL_isFull 57 = .ok (.iconst 2, 1) := by decide +kernel
theorem dL_isFull_58 : decode cL_isFull 58 = .ok (.iadd, 1) := by decide +kernel
theorem dL_isFull_59 : decode cL_isFull 59 = .ok (.iaload, 1) := by decide +kernel
theorem dL_isFull_60 : decode cL_isFull 60 = .ok (.isub, 1) := by decide +kernel
theorem dL_isFull_61 : decode cL_isFull 61 = .ok (.imul, 1) := by decide +kernel
theorem dL_isFull_62 : decode cL_isFull 62 = .ok (.goto 4, 3) := by decide +kernel
theorem dL_isFull_65 : decode cL_isFull 65 = .ok (.iconst 0, 1) := by decide +kernel
theorem dL_isFull_66 : decode cL_isFull 66 = .ok (.iadd, 1) := by decide +kernel
theorem dL_isFull_67 : decode cL_isFull 67 = .ok (.istore 5, 2) := by decide +kernel
theorem dL_isFull_69 : decode cL_isFull 69 = .ok (.iinc 6 1, 3) := by decide +kernel
theorem dL_isFull_72 : decode cL_isFull 72 = .ok (.goto (-66), 3) := by decide +kernel
theorem dL_isFull_75 : decode cL_isFull 75 = .ok (.iconst 0, 1) := by decide +kernel
theorem dL_isFull_76 : decode cL_isFull 76 = .ok (.istore 6, 2) := by decide +kernel
theorem dL_isFull_78 : decode cL_isFull 78 = .ok (.iload 6, 2) := by decide +kernel
theorem dL_isFull_80 : decode cL_isFull 80 = .ok (.aload_n 1, 1) := by decide +kernel
theorem dL_isFull_81 : decode cL_isFull 81 = .ok (.bipush 12, 2) := by decide +kernel
theorem dL_isFull_83 : decode cL_isFull 83 = .ok (.iaload, 1) := by decide +kernel
theorem dL_isFull_84 : decode cL_isFull 84 = .ok (.if_icmp .ge 49, 3) := by decide +kernel
theorem dL_isFull_87 : decode cL_isFull 87 = .ok (.iload 5, 2) := by decide +kernel
theorem dL_isFull_89 : decode cL_isFull 89 = .ok (.aload_n 3, 1) := by decide +kernel
theorem dL_isFull_90 : decode cL_isFull 90 = .ok (.bipush 7, 2) := by decide +kernel
theorem dL_isFull_92 : decode cL_isFull 92 = .ok (.iload 6, 2) := by decide +kernel
theorem dL_isFull_94 : decode cL_isFull 94 = .ok (.imul, 1) := by decide +kernel
theorem dL_isFull_95 : decode cL_isFull 95 = .ok (.iaload, 1) := by decide +kernel
theorem dL_isFull_96 : decode cL_isFull 96 = .ok (.iload 4, 2) := by decide +kernel
theorem dL_isFull_98 : decode cL_isFull 98 = .ok (.if_icmp .ne 25, 3) := by decide +kernel
theorem dL_isFull_101 : decode cL_isFull 101 = .ok (.aload_n 3, 1) := by decide +kernel
theorem dL_isFull_102 : decode cL_isFull 102 = .ok (.bipush 7, 2) := by decide +kernel
theorem dL_isFull_104 : decode cL_isFull 104 = .ok (.iload 6, 2) := by decide +kernel
theorem dL_isFull_106 : decode cL_isFull 106 = .ok (.imul, 1) := by decide +kernel
theorem dL_isFull_107 : decode cL_isFull 107 = .ok (.iconst 3, 1) := by decide +kernel
theorem dL_isFull_108 : decode cL_isFull 108 = .ok (.iadd, 1) := by decide +kernel
theorem dL_isFull_109 : decode cL_isFull 109 = .ok (.iaload, 1) := by decide +kernel
theorem dL_isFull_110 : decode cL_isFull 110 = .ok (.aload_n 3, 1) := by decide +kernel
theorem dL_isFull_111 : decode cL_isFull 111 = .ok (.bipush 7, 2) := by decide +kernel
theorem dL_isFull_113 : decode cL_isFull 113 = .ok (.iload 6, 2) := by decide +kernel
theorem dL_isFull_115 : decode cL_isFull 115 = .ok (.imul, 1) := by decide +kernel
theorem dL_isFull_116 : decode cL_isFull 116 = .ok (.iconst 2, 1) := by decide +kernel
theorem dL_isFull_117 : decode cL_isFull 117 = .ok (.iadd, 1) := by decide +kernel
theorem dL_isFull_118 : decode cL_isFull 118 = .ok (.iaload, 1) := by decide +kernel
theorem dL_isFull_119 : decode cL_isFull 119 = .ok (.isub, 1) := by decide +kernel
theorem dL_isFull_120 : decode cL_isFull 120 = .ok (.goto 4, 3) := by decide +kernel
theorem dL_isFull_123 : decode cL_isFull 123 = .ok (.iconst 0, 1) := by decide +kernel
theorem dL_isFull_124 : decode cL_isFull 124 = .ok (.iadd, 1) := by decide +kernel
theorem dL_isFull_125 : decode cL_isFull 125 = .ok (.istore 5, 2) := by decide +kernel
theorem dL_isFull_127 : decode cL_isFull 127 = .ok (.iinc 6 1, 3) := by decide +kernel
theorem dL_isFull_130 : decode cL_isFull 130 = .ok (.goto (-52), 3) := by decide +kernel
theorem dL_isFull_133 : decode cL_isFull 133 = .ok (.aload_n 0, 1) := by decide +kernel
theorem dL_isFull_134 : decode cL_isFull 134 = .ok (.iload 4, 2) := by decide +kernel
theorem dL_isFull_136 : decode cL_isFull 136 = .ok (.invokevirtual 104, 3) := by decide +kernel
theorem dL_isFull_139 : decode cL_isFull 139 = .ok (.iload 5, 2) := by decide +kernel
theorem dL_isFull_141 : decode cL_isFull 141 = .ok (.i2d, 1) := by decide +kernel
theorem dL_isFull_142 : decode cL_isFull 142 = .ok (.ldc2_w 108, 3) := by decide +kernel
theorem dL_isFull_145 : decode cL_isFull 145 = .ok (.ddiv, 1) := by decide +kernel
theorem dL_isFull_146 : decode cL_isFull 146 = .ok (.dcmp .l, 1) := by decide +kernel
theorem dL_isFull_147 : decode cL_isFull 147 = .ok (.ifCond .ne 7, 3) := by decide +kernel
theorem dL_isFull_150 : decode cL_isFull 150 = .ok (.iconst 1, 1) := by decide +kernel
theorem dL_isFull_151 : decode cL_isFull 151 = .ok (.goto 4, 3) := by decide +kernel
theorem dL_isFull_154 : decode cL_isFull 154 = .ok (.iconst 0, 1) := by decide +kernel
theorem dL_isFull_155 : decode cL_isFull 155 = .ok (.ireturn, 1) := by decide +kernel
theorem dL_isNext_0 : decode cL_isNext 0 = .ok (.iconst (-1), 1) := by decide +kernel
theorem dL_isNext_1 : decode cL_isNext 1 = .ok (.istore 7, 2) := by decide +kernel
theorem dL_isNext_3 : decode cL_isNext 3 = .ok (.bipush 24, 2) := by decide +kernel
theorem dL_isNext_5 : decode cL_isNext 5 = .ok (.iload 5, 2) := by decide +kernel
theorem dL_isNext_7 : decode cL_isNext 7 = .ok (.imul, 1) := by decide +kernel
theorem dL_isNext_8 : decode cL_isNext 8 = .ok (.istore 8, 2) := by decide +kernel
theorem dL_isNext_10 : decode cL_isNext 10 = .ok (.iload 8, 2) := by decide +kernel
theorem dL_isNext_12 : decode cL_isNext 12 = .ok (.sipush 2016, 3) := by decide +kernel
theorem dL_isNext_15 : decode cL_isNext 15 = .ok (.if_icmp .ge 65, 3) := by decide +kernel
theorem dL_isNext_18 : decode cL_isNext 18 = .ok (.iload 7, 2) := by decide +kernel
theorem dL_isNext_20 : decode cL_isNext 20 = .ok (.ifCond .ge 60, 3) := by decide +kernel
theorem dL_isNext_23 : decode cL_isNext 23 = .ok (.iload 8, 2) := by decide +kernel
theorem dL_isNext_25 : decode cL_isNext 25 = .ok (.bipush 24, 2) := by decide +kernel
theorem dL_isNext_27 : decode cL_isNext 27 = .ok (.irem, 1) := by decide +kernel
theorem dL_isNext_28 : decode cL_isNext 28 = .ok (.iload 6, 2) := by decide +kernel
theorem dL_isNext_30 : decode cL_isNext 30 = .ok (.iadd, 1) := by decide +kernel
theorem dL_isNext_31 : decode cL_isNext 31 = .ok (.bipush 24, 2) := by decide +kernel
theorem dL_isNext_33 : decode cL_isNext 33 = .ok (.if_icmp .gt 38, 3) := by decide +kernel
theorem dL_isNext_36 : decode cL_isNext 36 = .ok (.aload_n 1, 1) := by decide +kernel
theorem dL_isNext_37 : decode cL_isNext 37 = .ok (.aload_n 2, 1) := by decide +kernel
theorem dL_isNext_38 : decode cL_isNext 38 = .ok (.aload_n 3, 1) := by decide +kernel
theorem dL_isNext_39 : decode cL_isNext 39 = .ok (.iload 4, 2) := by decide +kernel
theorem dL_isNext_41 : decode cL_isNext 41 = .ok (.iload 8, 2) := by decide +kernel
theorem dL_isNext_43 : decode cL_isNext 43 = .ok (.bipush 24, 2) := by decide +kernel
theorem dL_isNext_45 : decode cL_isNext 45 = .ok (.idiv, 1) := by decide +kernel
theorem dL_isNext_46 : decode cL_isNext 46 = .ok (.iload 8, 2) := by decide +kernel
theorem dL_isNext_48 : decode cL_isNext 48 = .ok (.bipush 24, 2) := by decide +kernel
theorem dL_isNext_50 : decode cL_isNext 50 = .ok (.irem, 1) := by decide +kernel
theorem dL_isNext_51 : decode cL_isNext 51 = .ok (.iload 8, 2) := by decide +kernel
theorem dL_isNext_53 : decode cL_isNext 53 = .ok (.bipush 24, 2) := by decide +kernel
theorem dL_isNext_55 : decode cL_isNext 55 = .ok (.irem, 1) := by decide +kernel
theorem dL_isNext_56 : decode cL_isNext 56 = .ok (.iload 6, 2) := by decide +kernel
theorem dL_isNext_58 : decode cL_isNext 58 = .ok (.iadd, 1) := by decide +kernel
theorem dL_isNext_59 : decode cL_isNext 59 = .ok (.iconst 1, 1) := by decide +kernel
theorem dL_isNext_60 : decode cL_isNext 60 = .ok (.invokestatic 30, 3) := by decide +kernel
theorem dL_isNext_63 : decode cL_isNext 63 = .ok (.ifCond .ne 8, 3) := by decide +kernel
theorem dL_isNext_66 : decode cL_isNext 66 = .ok (.iload 8, 2) := by decide +kernel
theorem dL_isNext_68 : decode cL_isNext 68 = .ok (.goto 4, 3) := by decide +kernel
theorem dL_isNext_71 : decode cL_isNext 71 = .ok (.iconst (-1), 1) := by decide +kernel
theorem dL_isNext_72 : decode cL_isNext 72 = .ok (.istore 7, 2) := by decide +kernel
theorem dL_isNext_74 : decode cL_isNext 74 = .ok (.iinc 8 1, 3) := by decide +kernel
theorem dL_isNext_77 : decode cL_isNext 77 = .ok (.goto (-67), 3) := by decide +kernel
theorem dL_isNext_80 : decode cL_isNext 80 = .ok (.aload_n 0, 1) := by decide +kernel
theorem dL_isNext_81 : decode cL_isNext 81 = .ok (.iload 4, 2) := by decide +kernel
theorem dL_isNext_83 : decode cL_isNext 83 = .ok (.iload 5, 2) := by decide +kernel
theorem dL_isNext_85 : decode cL_isNext 85 = .ok (.iload 6, 2) := by decide +kernel
theorem dL_isNext_87 : decode cL_isNext 87 = .ok (.invokevirtual 110, 3) := by decide +kernel
theorem dL_isNext_90 : decode cL_isNext 90 = .ok (.iload 7, 2) := by decide +kernel
theorem dL_isNext_92 : decode cL_isNext 92 = .ok (.if_icmp .ne 7, 3) := by decide +kernel
theorem dL_isNext_95 : decode cL_isNext 95 = .ok (.iconst 1, 1) := by decide +kernel
theorem dL_isNext_96 : decode cL_isNext 96 = .ok (.goto 4, 3) := by decide +kernel
theorem dL_isNext_99 : decode cL_isNext 99 = .ok (.iconst 0, 1) := by decide +kernel
theorem dL_isNext_100 : decode cL_isNext 100 = .ok (.ireturn, 1) := by decide +kernel
theorem dL_acts_0 : decode cL_acts 0 = .ok (.iload 5, 2) := by decide +kernel
theorem dL_acts_2 : decode cL_acts 2 = .ok (.iconst 3, 1) := by decide +kernel
theorem dL_acts_3 : decode cL_acts 3 = .ok (.invokestatic 58, 3) := by decide +kernel
theorem dL_acts_6 : decode cL_acts 6 = .ok (.istore 7, 2) := by decide +kernel
theorem dL_acts_8 : decode cL_acts 8 = .ok (.bipush 6, 2) := by decide +kernel
theorem dL_acts_10 : decode cL_acts 10 = .ok (.iload 5, 2) := by decide +kernel
theorem dL_acts_12 : decode cL_acts 12 = .ok (.iconst 2, 1) := by decide +kernel
theorem dL_acts_13 : decode cL_acts 13 = .ok (.ishr, 1) := by decide +kernel
theorem dL_acts_14 : decode cL_acts 14 = .ok (.bipush 14, 2) := by decide +kernel
theorem dL_acts_16 : decode cL_acts 16 = .ok (.invokestatic 58, 3) := by decide +kernel
theorem dL_acts_19 : decode cL_acts 19 = .ok (.iadd, 1) := by decide +kernel
theorem dL_acts_20 : decode cL_acts 20 = .ok (.istore 8, 2) := by decide +kernel
theorem dL_acts_22 : decode cL_acts 22 = .ok (.iload 8, 2) := by decide +kernel
theorem dL_acts_24 : decode cL_acts 24 = .ok (.iconst 1, 1) := by decide +kernel
theorem dL_acts_25 : decode cL_acts 25 = .ok (.iadd, 1) := by decide +kernel
theorem dL_acts_26 : decode cL_acts 26 = .ok (.iload 5, 2) := by decide +kernel
theorem dL_acts_28 : decode cL_acts 28 = .ok (.bipush 6, 2) := by decide +kernel
theorem dL_acts_30 : decode cL_acts 30 = .ok (.ishr, 1) := by decide +kernel
theorem dL_acts_31 : decode cL_acts 31 = .ok (.iconst 4, 1) := by decide +kernel
theorem dL_acts_32 : decode cL_acts 32 = .ok (.invokestatic 58, 3) := by decide +kernel
theorem dL_acts_35 : decode cL_acts 35 = .ok (.iadd, 1) := by decide +kernel
theorem dL_acts_36 : decode cL_acts 36 = .ok (.istore 9, 2) := by decide +kernel
theorem dL_acts_38 : decode cL_acts 38 = .ok (.iconst 1, 1) := by decide +kernel
theorem dL_acts_39 : decode cL_acts 39 = .ok (.iload 5, 2) := by decide +kernel
theorem dL_acts_41 : decode cL_acts 41 = .ok (.bipush 9, 2) := by decide +kernel
theorem dL_acts_43 : decode cL_acts 43 = .ok (.ishr, 1) := by decide +kernel
theorem dL_acts_44 : decode cL_acts 44 = .ok (.bipush 9, 2) := by decide +kernel
theorem dL_acts_46 : decode cL_acts 46 = .ok (.invokestatic 58, 3) := by decide +kernel
theorem dL_acts_49 : decode cL_acts 49 = .ok (.iadd, 1) := by decide +kernel
theorem dL_acts_50 : decode cL_acts 50 = .ok (.istore 10, 2) := by decide +kernel
theorem dL_acts_52 : decode cL_acts 52 = .ok (.iload 5, 2) := by decide +kernel
theorem dL_acts_54 : decode cL_acts 54 = .ok (.bipush 13, 2) := by decide +kernel
theorem dL_acts_56 : decode cL_acts 56 = .ok (.ishr, 1) := by decide +kernel
theorem dL_acts_57 : decode cL_acts 57 = .ok (.bipush 20, 2) := by decide +kernel
theorem dL_acts_59 : decode cL_acts 59 = .ok (.invokestatic 58, 3) := by decide +kernel
theorem dL_acts_62 : decode cL_acts 62 = .ok (.istore 11, 2) := by decide +kernel
theorem dL_acts_64 : decode cL_acts 64 = .ok (.iload 4, 2) := by decide +kernel
theorem dL_acts_66 : decode cL_acts 66 = .ok (.tableswitch 272 0 6 #[42, 68, 78, 126, 247, 247, 247], 42) := by decide +kernel
theorem dL_acts_108 : decode cL_acts 108 = .ok (.aload_n 0, 1) := by decide +kernel
theorem dL_acts_109 : decode cL_acts 109 = .ok (.aload_n 1, 1) := by decide +kernel
theorem dL_acts_110 : decode cL_acts 110 = .ok (.aload_n 2, 1) := by decide +kernel
theorem dL_acts_111 : decode cL_acts 111 = .ok (.aload_n 3, 1) := by decide +kernel
theorem dL_acts_112 : decode cL_acts 112 = .ok (.iload 6, 2) := by decide +kernel
theorem dL_acts_114 : decode cL_acts 114 = .ok (.iconst 2, 1) := by decide +kernel
theorem dL_acts_115 : decode cL_acts 115 = .ok (.invokestatic 58, 3) := by decide +kernel
theorem dL_acts_118 : decode cL_acts 118 = .ok (.ifCond .ne 7, 3) := by decide +kernel
theorem dL_acts_121 : decode cL_acts 121 = .ok (.iconst 1, 1) := by decide +kernel
theorem dL_acts_122 : decode cL_acts 122 = .ok (.goto 4, 3) := by decide +kernel
theorem dL_acts_125 : decode cL_acts 125 = .ok (.iconst 0, 1) := by decide +kernel
theorem dL_acts_126 : decode cL_acts 126 = .ok (.iload 6, 2) := by decide +kernel
theorem dL_acts_128 : decode cL_acts 128 = .ok (.iconst 1, 1) := by decide +kernel
theorem dL_acts_129 : decode cL_acts 129 = .ok (.ishr, 1) := by decide +kernel
theorem dL_acts_130 : decode cL_acts 130 = .ok (.invokestatic 113, 3) := by decide +kernel
theorem dL_acts_133 : decode cL_acts 133 = .ok (.ireturn, 1) := by decide +kernel
theorem dL_acts_134 : decode cL_acts 134 = .ok (.aload_n 0, 1) := by decide +kernel
theorem dL_acts_135 : decode cL_acts 135 = .ok (.aload_n 1, 1) := by decide +kernel
theorem dL_acts_136 : decode cL_acts 136 = .ok (.aload_n 2, 1) := by decide +kernel
theorem dL_acts_137 : decode cL_acts 137 = .ok (.aload_n 3, 1) := by decide +kernel
theorem dL_acts_138 : decode cL_acts 138 = .ok (.iload 6, 2) := by decide +kernel
theorem dL_acts_140 : decode cL_acts 140 = .ok (.invokestatic 117, 3) := by decide +kernel
theorem dL_acts_143 : decode cL_acts 143 = .ok (.ireturn, 1) := by decide +kernel
theorem dL_acts_144 : decode cL_acts 144 = .ok (.aload_n 1, 1) := by decide +kernel
theorem dL_acts_145 : decode cL_acts 145 = .ok (.iconst 5, 1) := by decide +kernel
theorem dL_acts_146 : decode cL_acts 146 = .ok (.iload 7, 2) := by decide +kernel
theorem dL_acts_148 : decode cL_acts 148 = .ok (.iadd, 1) := by decide +kernel
theorem dL_acts_149 : decode cL_acts 149 = .ok (.iaload, 1) := by decide +kernel
theorem dL_acts_150 : decode cL_acts 150 = .ok (.istore 12, 2) := by decide +kernel
theorem dL_acts_152 : decode cL_acts 152 = .ok (.aload_n 1, 1) := by decide +kernel
theorem dL_acts_153 : decode cL_acts 153 = .ok (.iconst 5, 1) := by decide +kernel
theorem dL_acts_154 : decode cL_acts 154 = .ok (.iload 7, 2) := by decide +kernel
theorem dL_acts_156 : decode cL_acts 156 = .ok (.iadd, 1) := by decide +kernel
theorem dL_acts_157 : decode cL_acts 157 = .ok (.bipush 100, 2) := by decide +kernel
theorem dL_acts_159 : decode cL_acts 159 = .ok (.iload 6, 2) := by decide +kernel
theorem dL_acts_161 : decode cL_acts 161 = .ok (.sipush 4901, 3) := by decide +kernel
theorem dL_acts_164 : decode cL_acts 164 = .ok (.invokestatic 58, 3) := by decide +kernel
theorem dL_acts_167 : decode cL_acts 167 = .ok (.iadd, 1) := by decide +kernel
theorem dL_acts_168 : decode cL_acts 168 = .ok (.iastore, 1) := by decide +kernel
theorem dL_acts_169 : decode cL_acts 169 = .ok (.aload_n 0, 1) := by decide +kernel
theorem dL_acts_170 : decode cL_acts 170 = .ok (.iload 7, 2) := by decide +kernel
theorem dL_acts_172 : decode cL_acts 172 = .ok (.aload_n 1, 1) := by decide +kernel
theorem dL_acts_173 : decode cL_acts 173 = .ok (.iconst 5, 1) := by decide +kernel
theorem dL_acts_174 : decode cL_acts 174 = .ok (.iload 7, 2) := by decide +kernel
theorem dL_acts_176 : decode cL_acts 176 = .ok (.iadd, 1) := by decide +kernel
theorem dL_acts_177 : decode cL_acts 177 = .ok (.iaload, 1) := by decide +kernel
theorem dL_acts_178 : decode cL_acts 178 = .ok (.invokevirtual 121, 3) := by decide +kernel
theorem dL_acts_181 : decode cL_acts 181 = .ok (.iload 12, 2) := by decide +kernel
theorem dL_acts_183 : decode cL_acts 183 = .ok (.if_icmp .ne 7, 3) := by decide +kernel
theorem dL_acts_186 : decode cL_acts 186 = .ok (.iconst 1, 1) := by decide +kernel
theorem dL_acts_187 : decode cL_acts 187 = .ok (.goto 4, 3) := by decide +kernel
theorem dL_acts_190 : decode cL_acts 190 = .ok (.iconst 0, 1) := by decide +kernel
theorem dL_acts_191 : decode cL_acts 191 = .ok (.ireturn, 1) := by decide +kernel
theorem dL_acts_192 : decode cL_acts 192 = .ok (.iload 6, 2) := by decide +kernel
theorem dL_acts_194 : decode cL_acts 194 = .ok (.iconst 4, 1) := by decide +kernel
theorem dL_acts_195 : decode cL_acts 195 = .ok (.invokestatic 58, 3) := by decide +kernel
theorem dL_acts_198 : decode cL_acts 198 = .ok (.istore 13, 2) := by decide +kernel
theorem dL_acts_200 : decode cL_acts 200 = .ok (.iload 6, 2) := by decide +kernel
theorem dL_acts_202 : decode cL_acts 202 = .ok (.iconst 3, 1) := by decide +kernel
theorem dL_acts_203 : decode cL_acts 203 = .ok (.ishr, 1) := by decide +kernel
theorem dL_acts_204 : decode cL_acts 204 = .ok (.bipush 84, 2) := by decide +kernel
theorem dL_acts_206 : decode cL_acts 206 = .ok (.invokestatic 58, 3) := by decide +kernel
theorem dL_acts_209 : decode cL_acts 209 = .ok (.istore 14, 2) := by decide +kernel
theorem dL_acts_211 : decode cL_acts 211 = .ok (.iload 13, 2) := by decide +kernel
theorem dL_acts_213 : decode cL_acts 213 = .ok (.aload_n 1, 1) := by decide +kernel
theorem dL_acts_214 : decode cL_acts 214 = .ok (.bipush 11, 2) := by decide +kernel
theorem dL_acts_216 : decode cL_acts 216 = .ok (.iaload, 1) := by decide +kernel
theorem dL_acts_217 : decode cL_acts 217 = .ok (.if_icmp .ge 78, 3) := by decide +kernel
theorem dL_acts_220 : decode cL_acts 220 = .ok (.aload_n 2, 1) := by decide +kernel
theorem dL_acts_221 : decode cL_acts 221 = .ok (.iload 13, 2) := by decide +kernel
theorem dL_acts_223 : decode cL_acts 223 = .ok (.iload 14, 2) := by decide +kernel
theorem dL_acts_225 : decode cL_acts 225 = .ok (.invokestatic 15, 3) := by decide +kernel
theorem dL_acts_228 : decode cL_acts 228 = .ok (.ifCond .eq 67, 3) := by decide +kernel
theorem dL_acts_231 : decode cL_acts 231 = .ok (.aload_n 2, 1) := by decide +kernel
theorem dL_acts_232 : decode cL_acts 232 = .ok (.bipush 11, 2) := by decide +kernel
theorem dL_acts_234 : decode cL_acts 234 = .ok (.iload 13, 2) := by decide +kernel
theorem dL_acts_236 : decode cL_acts 236 = .ok (.imul, 1) := by decide +kernel
theorem dL_acts_237 : decode cL_acts 237 = .ok (.bipush 9, 2) := by decide +kernel
theorem dL_acts_239 : decode cL_acts 239 = .ok (.iadd, 1) := by decide +kernel
theorem dL_acts_240 : decode cL_acts 240 = .ok (.dup2, 1) := by decide +kernel
theorem dL_acts_241 : decode cL_acts 241 = .ok (.iaload, 1) := by decide +kernel
theorem dL_acts_242 : decode cL_acts 242 = .ok (.iconst 1, 1) := by decide +kernel
theorem dL_acts_243 : decode cL_acts 243 = .ok (.iload 14, 2) := by decide +kernel
theorem dL_acts_245 : decode cL_acts 245 = .ok (.bipush 7, 2) := by decide +kernel
theorem dL_acts_247 : decode cL_acts 247 = .ok (.idiv, 1) := by decide +kernel
theorem dL_acts_248 : decode cL_acts 248 = .ok (.ishl, 1) := by decide +kernel
theorem dL_acts_249 : decode cL_acts 249 = .ok (.isub, 1) := by decide +kernel
theorem dL_acts_250 : decode cL_acts 250 = .ok (.iastore, 1) := by decide +kernel
theorem dL_acts_251 : decode cL_acts 251 = .ok (.aload_n 1, 1) := by decide +kernel
theorem dL_acts_252 : decode cL_acts 252 = .ok (.bipush 9, 2) := by decide +kernel
theorem dL_acts_254 : decode cL_acts 254 = .ok (.dup2, 1) := by decide +kernel
theorem dL_acts_255 : decode cL_acts 255 = .ok (.iaload, 1) := by decide +kernel
theorem dL_acts_256 : decode cL_acts 256 = .ok (.aload_n 2, 1) := by decide +kernel
theorem dL_acts_257 : decode cL_acts 257 = .ok (.bipush 11, 2) := by decide +kernel
theorem dL_acts_259 : decode cL_acts 259 = .ok (.iload 13, 2) := by decide +kernel
theorem dL_acts_261 : decode cL_acts 261 = .ok (.imul, 1) := by decide +kernel
theorem dL_acts_262 : decode cL_acts 262 = .ok (.bipush 6, 2) := by decide +kernel
theorem dL_acts_264 : decode cL_acts 264 = .ok (.iadd, 1) := by decide +kernel
theorem dL_acts_265 : decode cL_acts 265 = .ok (.iaload, 1) := by decide +kernel
theorem dL_acts_266 : decode cL_acts 266 = .ok (.iadd, 1) := by decide +kernel
theorem dL_acts_267 : decode cL_acts 267 = .ok (.iastore, 1) := by decide +kernel
theorem dL_acts_268 : decode cL_acts 268 = .ok (.aload_n 0, 1) := by decide +kernel
theorem dL_acts_269 : decode cL_acts 269 = .ok (.iload 13, 2) := by decide +kernel
theorem dL_acts_271 : decode cL_acts 271 = .ok (.iload 14, 2) := by decide +kernel
theorem dL_acts_273 : decode cL_acts 273 = .ok (.invokevirtual 124, 3) := by decide +kernel
theorem dL_acts_276 : decode cL_acts 276 = .ok (.aload_n 2, 1) := by decide +kernel
theorem dL_acts_277 : decode cL_acts 277 = .ok (.bipush 11, 2) := by decide +kernel
theorem dL_acts_279 : decode cL_acts 279 = .ok (.iload 13, 2) := by decide +kernel
theorem dL_acts_281 : decode cL_acts 281 = .ok (.imul, 1) := by decide +kernel
theorem dL_acts_282 : decode cL_acts 282 = .ok (.bipush 6, 2) := by decide +kernel
theorem dL_acts_284 : decode cL_acts 284 = .ok (.iadd, 1) := by decide +kernel
theorem dL_acts_285 : decode cL_acts 285 = .ok (.iaload, 1) := by decide +kernel
theorem dL_acts_286 : decode cL_acts 286 = .ok (.if_icmp .ne 7, 3) := by decide +kernel
theorem dL_acts_289 : decode cL_acts 289 = .ok (.iconst 1, 1) := by decide +kernel
theorem dL_acts_290 : decode cL_acts 290 = .ok (.goto 4, 3) := by decide +kernel
theorem dL_acts_293 : decode cL_acts 293 = .ok (.iconst 0, 1) := by decide +kernel
theorem dL_acts_294 : decode cL_acts 294 = .ok (.ireturn, 1) := by decide +kernel
theorem dL_acts_295 : decode cL_acts 295 = .ok (.aload_n 0, 1) := by decide +kernel
theorem dL_acts_296 : decode cL_acts 296 = .ok (.iconst 0, 1) := by decide +kernel
theorem dL_acts_297 : decode cL_acts 297 = .ok (.invokevirtual 51, 3) := by decide +kernel
theorem dL_acts_300 : decode cL_acts 300 = .ok (.aload_n 1, 1) := by decide +kernel
theorem dL_acts_301 : decode cL_acts 301 = .ok (.bipush 11, 2) := by decide +kernel
theorem dL_acts_303 : decode cL_acts 303 = .ok (.iaload, 1) := by decide +kernel
theorem dL_acts_304 : decode cL_acts 304 = .ok (.if_icmp .ne 7, 3) := by decide +kernel
theorem dL_acts_307 : decode cL_acts 307 = .ok (.iconst 1, 1) := by decide +kernel
theorem dL_acts_308 : decode cL_acts 308 = .ok (.goto 4, 3) := by decide +kernel
theorem dL_acts_311 : decode cL_acts 311 = .ok (.iconst 0, 1) := by decide +kernel
theorem dL_acts_312 : decode cL_acts 312 = .ok (.ireturn, 1) := by decide +kernel
theorem dL_acts_313 : decode cL_acts 313 = .ok (.aload_n 0, 1) := by decide +kernel
theorem dL_acts_314 : decode cL_acts 314 = .ok (.aload_n 1, 1) := by decide +kernel
theorem dL_acts_315 : decode cL_acts 315 = .ok (.aload_n 2, 1) := by decide +kernel
theorem dL_acts_316 : decode cL_acts 316 = .ok (.aload_n 3, 1) := by decide +kernel
theorem dL_acts_317 : decode cL_acts 317 = .ok (.iload 7, 2) := by decide +kernel
theorem dL_acts_319 : decode cL_acts 319 = .ok (.iload 6, 2) := by decide +kernel
theorem dL_acts_321 : decode cL_acts 321 = .ok (.bipush 7, 2) := by decide +kernel
theorem dL_acts_323 : decode cL_acts 323 = .ok (.invokestatic 58, 3) := by decide +kernel
theorem dL_acts_326 : decode cL_acts 326 = .ok (.iload 8, 2) := by decide +kernel
theorem dL_acts_328 : decode cL_acts 328 = .ok (.iload 9, 2) := by decide +kernel
theorem dL_acts_330 : decode cL_acts 330 = .ok (.iload 10, 2) := by decide +kernel
theorem dL_acts_332 : decode cL_acts 332 = .ok (.iload 11, 2) := by decide +kernel
theorem dL_acts_334 : decode cL_acts 334 = .ok (.invokestatic 127, 3) := by decide +kernel
theorem dL_acts_337 : decode cL_acts 337 = .ok (.ireturn, 1) := by decide +kernel
theorem dL_acts_338 : decode cL_acts 338 = .ok (.aload_n 0, 1) := by decide +kernel
theorem dL_acts_339 : decode cL_acts 339 = .ok (.aload_n 1, 1) := by decide +kernel
theorem dL_acts_340 : decode cL_acts 340 = .ok (.aload_n 2, 1) := by decide +kernel
theorem dL_acts_341 : decode cL_acts 341 = .ok (.aload_n 3, 1) := by decide +kernel
theorem dL_acts_342 : decode cL_acts 342 = .ok (.iload 7, 2) := by decide +kernel
theorem dL_acts_344 : decode cL_acts 344 = .ok (.iload 6, 2) := by decide +kernel
theorem dL_acts_346 : decode cL_acts 346 = .ok (.iconst 3, 1) := by decide +kernel
theorem dL_acts_347 : decode cL_acts 347 = .ok (.invokestatic 58, 3) := by decide +kernel
theorem dL_acts_350 : decode cL_acts 350 = .ok (.ifCond .ne 15, 3) := by decide +kernel
theorem dL_acts_353 : decode cL_acts 353 = .ok (.iload 6, 2) := by decide +kernel
theorem dL_acts_355 : decode cL_acts 355 = .ok (.iconst 2, 1) := by decide +kernel
theorem dL_acts_356 : decode cL_acts 356 = .ok (.ishr, 1) := by decide +kernel
theorem dL_acts_357 : decode cL_acts 357 = .ok (.bipush 84, 2) := by decide +kernel
theorem dL_acts_359 : decode cL_acts 359 = .ok (.invokestatic 58, 3) := by decide +kernel
theorem dL_acts_362 : decode cL_acts 362 = .ok (.goto 25, 3) := by decide +kernel
theorem dL_acts_365 : decode cL_acts 365 = .ok (.bipush 7, 2) := by decide +kernel
theorem dL_acts_367 : decode cL_acts 367 = .ok (.iload 6, 2) := by decide +kernel
theorem dL_acts_369 : decode cL_acts 369 = .ok (.iconst 2, 1) := by decide +kernel
theorem dL_acts_370 : decode cL_acts 370 = .ok (.ishr, 1) := by decide +kernel
theorem dL_acts_371 : decode cL_acts 371 = .ok (.iconst 3, 1) := by decide +kernel
theorem dL_acts_372 : decode cL_acts 372 = .ok (.invokestatic 58, 3) := by decide +kernel
theorem dL_acts_375 : decode cL_acts 375 = .ok (.imul, 1) := by decide +kernel
theorem dL_acts_376 : decode cL_acts 376 = .ok (.iload 6, 2) := by decide +kernel
theorem dL_acts_378 : decode cL_acts 378 = .ok (.iconst 5, 1) := by decide +kernel
theorem dL_acts_379 : decode cL_acts 379 = .ok (.ishr, 1) := by decide +kernel
theorem dL_acts_380 : decode cL_acts 380 = .ok (.iconst 2, 1) := by decide +kernel
theorem dL_acts_381 : decode cL_acts 381 = .ok (.invokestatic 58, 3) := by decide +kernel
theorem dL_acts_384 : decode cL_acts 384 = .ok (.iconst 5, 1) := by decide +kernel
theorem dL_acts_385 : decode cL_acts 385 = .ok (.imul, 1) := by decide +kernel
theorem dL_acts_386 : decode cL_acts 386 = .ok (.iadd, 1) := by decide +kernel
theorem dL_acts_387 : decode cL_acts 387 = .ok (.iload 8, 2) := by decide +kernel
theorem dL_acts_389 : decode cL_acts 389 = .ok (.iload 9, 2) := by decide +kernel
theorem dL_acts_391 : decode cL_acts 391 = .ok (.iload 10, 2) := by decide +kernel
theorem dL_acts_393 : decode cL_acts 393 = .ok (.iload 11, 2) := by decide +kernel
theorem dL_acts_395 : decode cL_acts 395 = .ok (.invokestatic 131, 3) := by decide +kernel
theorem dL_acts_398 : decode cL_acts 398 = .ok (.ireturn, 1) := by decide +kernel
theorem dL_law_0 : decode cL_law 0 = .ok (.new 35, 3) := by decide +kernel
theorem dL_law_3 : decode cL_law 3 = .ok (.dup, 1) := by decide +kernel
theorem dL_law_4 : decode cL_law 4 = .ok (.invokespecial 134, 3) := by decide +kernel
theorem dL_law_7 : decode cL_law 7 = .ok (.astore_n 1, 1) := by decide +kernel
theorem dL_law_8 : decode cL_law 8 = .ok (.bipush 13, 2) := by decide +kernel
theorem dL_law_10 : decode cL_law 10 = .ok (.newarray .int, 2) := by decide +kernel
theorem dL_law_12 : decode cL_law 12 = .ok (.astore_n 2, 1) := by decide +kernel
theorem dL_law_13 : decode cL_law 13 = .ok (.bipush 44, 2) := by decide +kernel
theorem dL_law_15 : decode cL_law 15 = .ok (.newarray .int, 2) := by decide +kernel
theorem dL_law_17 : decode cL_law 17 = .ok (.astore_n 3, 1) := by decide +kernel
theorem dL_law_18 : decode cL_law 18 = .ok (.bipush 56, 2) := by decide +kernel
theorem dL_law_20 : decode cL_law 20 = .ok (.newarray .int, 2) := by decide +kernel
theorem dL_law_22 : decode cL_law 22 = .ok (.astore 4, 2) := by decide +kernel
theorem dL_law_24 : decode cL_law 24 = .ok (.aload_n 2, 1) := by decide +kernel
theorem dL_law_25 : decode cL_law 25 = .ok (.iconst 0, 1) := by decide +kernel
theorem dL_law_26 : decode cL_law 26 = .ok (.iconst 1, 1) := by decide +kernel
theorem dL_law_27 : decode cL_law 27 = .ok (.iastore, 1) := by decide +kernel
theorem dL_law_28 : decode cL_law 28 = .ok (.aload_n 2, 1) := by decide +kernel
theorem dL_law_29 : decode cL_law 29 = .ok (.iconst 1, 1) := by decide +kernel
theorem dL_law_30 : decode cL_law 30 = .ok (.bipush 20, 2) := by decide +kernel
theorem dL_law_32 : decode cL_law 32 = .ok (.iastore, 1) := by decide +kernel
theorem dL_law_33 : decode cL_law 33 = .ok (.aload_n 2, 1) := by decide +kernel
theorem dL_law_34 : decode cL_law 34 = .ok (.iconst 2, 1) := by decide +kernel
theorem dL_law_35 : decode cL_law 35 = .ok (.bipush 50, 2) := by decide +kernel
theorem dL_law_37 : decode cL_law 37 = .ok (.iastore, 1) := by decide +kernel
theorem dL_law_38 : decode cL_law 38 = .ok (.aload_n 2, 1) := by decide +kernel
theorem dL_law_39 : decode cL_law 39 = .ok (.iconst 4, 1) := by decide +kernel
theorem dL_law_40 : decode cL_law 40 = .ok (.bipush 11, 2) := by decide +kernel
theorem dL_law_42 : decode cL_law 42 = .ok (.iastore, 1) := by decide +kernel
theorem dL_law_43 : decode cL_law 43 = .ok (.aload_n 2, 1) := by decide +kernel
theorem dL_law_44 : decode cL_law 44 = .ok (.iconst 5, 1) := by decide +kernel
theorem dL_law_45 : decode cL_law 45 = .ok (.sipush 1000, 3) := by decide +kernel
theorem dL_law_48 : decode cL_law 48 = .ok (.iastore, 1) := by decide +kernel
theorem dL_law_49 : decode cL_law 49 = .ok (.aload_n 2, 1) := by decide +kernel
theorem dL_law_50 : decode cL_law 50 = .ok (.bipush 6, 2) := by decide +kernel
theorem dL_law_52 : decode cL_law 52 = .ok (.sipush 1500, 3) := by decide +kernel
theorem dL_law_55 : decode cL_law 55 = .ok (.iastore, 1) := by decide +kernel
theorem dL_law_56 : decode cL_law 56 = .ok (.aload_n 2, 1) := by decide +kernel
theorem dL_law_57 : decode cL_law 57 = .ok (.bipush 7, 2) := by decide +kernel
theorem dL_law_59 : decode cL_law 59 = .ok (.sipush 2500, 3) := by decide +kernel
theorem dL_law_62 : decode cL_law 62 = .ok (.iastore, 1) := by decide +kernel
theorem dL_law_63 : decode cL_law 63 = .ok (.aload_n 1, 1) := by decide +kernel
theorem dL_law_64 : decode cL_law 64 = .ok (.aload_n 2, 1) := by decide +kernel
theorem dL_law_65 : decode cL_law 65 = .ok (.aload_n 3, 1) := by decide +kernel
theorem dL_law_66 : decode cL_law 66 = .ok (.aload 4, 2) := by decide +kernel
theorem dL_law_68 : decode cL_law 68 = .ok (.invokestatic 135, 3) := by decide +kernel
theorem dL_law_71 : decode cL_law 71 = .ok (.ifCond .eq 15, 3) := by decide +kernel
theorem dL_law_74 : decode cL_law 74 = .ok (.aload_n 1, 1) := by decide +kernel
theorem dL_law_75 : decode cL_law 75 = .ok (.invokevirtual 88, 3) := by decide +kernel
theorem dL_law_78 : decode cL_law 78 = .ok (.iconst (-1), 1) := by decide +kernel
theorem dL_law_79 : decode cL_law 79 = .ok (.if_icmp .ne 7, 3) := by decide +kernel
theorem dL_law_82 : decode cL_law 82 = .ok (.iconst 1, 1) := by decide +kernel
theorem dL_law_83 : decode cL_law 83 = .ok (.goto 4, 3) := by decide +kernel
theorem dL_law_86 : decode cL_law 86 = .ok (.iconst 0, 1) := by decide +kernel
theorem dL_law_87 : decode cL_law 87 = .ok (.istore 5, 2) := by decide +kernel
theorem dL_law_89 : decode cL_law 89 = .ok (.iconst 0, 1) := by decide +kernel
theorem dL_law_90 : decode cL_law 90 = .ok (.istore 6, 2) := by decide +kernel
theorem dL_law_92 : decode cL_law 92 = .ok (.iload 6, 2) := by decide +kernel
theorem dL_law_94 : decode cL_law 94 = .ok (.bipush 34, 2) := by decide +kernel
theorem dL_law_96 : decode cL_law 96 = .ok (.if_icmp .ge 359, 3) := by decide +kernel
theorem dL_law_99 : decode cL_law 99 = .ok (.iload 5, 2) := by decide +kernel
theorem dL_law_101 : decode cL_law 101 = .ok (.ifCond .eq 354, 3) := by decide +kernel
theorem dL_law_104 : decode cL_law 104 = .ok (.aload_n 0, 1) := by decide +kernel
theorem dL_law_105 : decode cL_law 105 = .ok (.iconst 2, 1) := by decide +kernel
theorem dL_law_106 : decode cL_law 106 = .ok (.iload 6, 2) := by decide +kernel
theorem dL_law_108 : decode cL_law 108 = .ok (.imul, 1) := by decide +kernel
theorem dL_law_109 : decode cL_law 109 = .ok (.invokestatic 139, 3) := by decide +kernel
theorem dL_law_112 : decode cL_law 112 = .ok (.istore 7, 2) := by decide +kernel
theorem dL_law_114 : decode cL_law 114 = .ok (.aload_n 0, 1) := by decide +kernel
theorem dL_law_115 : decode cL_law 115 = .ok (.iconst 2, 1) := by decide +kernel
theorem dL_law_116 : decode cL_law 116 = .ok (.iload 6, 2) := by decide +kernel
theorem dL_law_118 : decode cL_law 118 = .ok (.imul, 1) := by decide +kernel
theorem dL_law_119 : decode cL_law 119 = .ok (.iconst 1, 1) := by decide +kernel
theorem dL_law_120 : decode cL_law 120 = .ok (.iadd, 1) := by decide +kernel
theorem dL_law_121 : decode cL_law 121 = .ok (.invokestatic 139, 3) := by decide +kernel
theorem dL_law_124 : decode cL_law 124 = .ok (.istore 8, 2) := by decide +kernel
theorem dL_law_126 : decode cL_law 126 = .ok (.aload_n 1, 1) := by decide +kernel
theorem dL_law_127 : decode cL_law 127 = .ok (.aload_n 2, 1) := by decide +kernel
theorem dL_law_128 : decode cL_law 128 = .ok (.aload_n 3, 1) := by decide +kernel
theorem dL_law_129 : decode cL_law 129 = .ok (.aload 4, 2) := by decide +kernel
theorem dL_law_131 : decode cL_law 131 = .ok (.iload 6, 2) := by decide +kernel
theorem dL_law_133 : decode cL_law 133 = .ok (.iconst 2, 1) := by decide +kernel
theorem dL_law_134 : decode cL_law 134 = .ok (.if_icmp .ge 7, 3) := by decide +kernel
theorem dL_law_137 : decode cL_law 137 = .ok (.iconst 4, 1) := by decide +kernel
theorem dL_law_138 : decode cL_law 138 = .ok (.goto 13, 3) := by decide +kernel
theorem dL_law_141 : decode cL_law 141 = .ok (.iload 7, 2) := by decide +kernel
theorem dL_law_143 : decode cL_law 143 = .ok (.bipush 18, 2) := by decide +kernel
theorem dL_law_145 : decode cL_law 145 = .ok (.ishr, 1) := by decide +kernel
theorem dL_law_146 : decode cL_law 146 = .ok (.bipush 14, 2) := by decide +kernel
theorem dL_law_148 : decode cL_law 148 = .ok (.invokestatic 58, 3) := by decide +kernel
theorem dL_law_151 : decode cL_law 151 = .ok (.iload 7, 2) := by decide +kernel
theorem dL_law_153 : decode cL_law 153 = .ok (.iload 8, 2) := by decide +kernel
theorem dL_law_155 : decode cL_law 155 = .ok (.invokestatic 143, 3) := by decide +kernel
theorem dL_law_158 : decode cL_law 158 = .ok (.ifCond .eq 113, 3) := by decide +kernel
theorem dL_law_161 : decode cL_law 161 = .ok (.aload_n 1, 1) := by decide +kernel
theorem dL_law_162 : decode cL_law 162 = .ok (.aload_n 2, 1) := by decide +kernel
theorem dL_law_163 : decode cL_law 163 = .ok (.aload_n 3, 1) := by decide +kernel
theorem dL_law_164 : decode cL_law 164 = .ok (.aload 4, 2) := by decide +kernel
theorem dL_law_166 : decode cL_law 166 = .ok (.invokestatic 147, 3) := by decide +kernel
theorem dL_law_169 : decode cL_law 169 = .ok (.ifCond .eq 102, 3) := by decide +kernel
theorem dL_law_172 : decode cL_law 172 = .ok (.aload_n 1, 1) := by decide +kernel
theorem dL_law_173 : decode cL_law 173 = .ok (.aload_n 2, 1) := by decide +kernel
theorem dL_law_174 : decode cL_law 174 = .ok (.aload_n 3, 1) := by decide +kernel
theorem dL_law_175 : decode cL_law 175 = .ok (.aload 4, 2) := by decide +kernel
theorem dL_law_177 : decode cL_law 177 = .ok (.invokestatic 135, 3) := by decide +kernel
theorem dL_law_180 : decode cL_law 180 = .ok (.ifCond .eq 91, 3) := by decide +kernel
theorem dL_law_183 : decode cL_law 183 = .ok (.aload_n 1, 1) := by decide +kernel
theorem dL_law_184 : decode cL_law 184 = .ok (.aload_n 2, 1) := by decide +kernel
theorem dL_law_185 : decode cL_law 185 = .ok (.aload_n 3, 1) := by decide +kernel
theorem dL_law_186 : decode cL_law 186 = .ok (.aload 4, 2) := by decide +kernel
theorem dL_law_188 : decode cL_law 188 = .ok (.iload 8, 2) := by decide +kernel
theorem dL_law_190 : decode cL_law 190 = .ok (.iconst 3, 1) := by decide +kernel
theorem dL_law_191 : decode cL_law 191 = .ok (.invokestatic 58, 3) := by decide +kernel
theorem dL_law_194 : decode cL_law 194 = .ok (.iload 8, 2) := by decide +kernel
theorem dL_law_196 : decode cL_law 196 = .ok (.iconst 2, 1) := by decide +kernel
theorem dL_law_197 : decode cL_law 197 = .ok (.ishr, 1) := by decide +kernel
theorem dL_law_198 : decode cL_law 198 = .ok (.bipush 84, 2) := by decide +kernel
theorem dL_law_200 : decode cL_law 200 = .ok (.invokestatic 58, 3) := by decide +kernel
theorem dL_law_203 : decode cL_law 203 = .ok (.invokestatic 150, 3) := by decide +kernel
theorem dL_law_206 : decode cL_law 206 = .ok (.ifCond .eq 65, 3) := by decide +kernel
theorem dL_law_209 : decode cL_law 209 = .ok (.aload_n 1, 1) := by decide +kernel
theorem dL_law_210 : decode cL_law 210 = .ok (.aload_n 2, 1) := by decide +kernel
theorem dL_law_211 : decode cL_law 211 = .ok (.aload_n 3, 1) := by decide +kernel
theorem dL_law_212 : decode cL_law 212 = .ok (.aload 4, 2) := by decide +kernel
theorem dL_law_214 : decode cL_law 214 = .ok (.iload 7, 2) := by decide +kernel
theorem dL_law_216 : decode cL_law 216 = .ok (.iconst 3, 1) := by decide +kernel
theorem dL_law_217 : decode cL_law 217 = .ok (.invokestatic 58, 3) := by decide +kernel
theorem dL_law_220 : decode cL_law 220 = .ok (.bipush 7, 2) := by decide +kernel
theorem dL_law_222 : decode cL_law 222 = .ok (.iload 8, 2) := by decide +kernel
theorem dL_law_224 : decode cL_law 224 = .ok (.iconst 2, 1) := by decide +kernel
theorem dL_law_225 : decode cL_law 225 = .ok (.ishr, 1) := by decide +kernel
theorem dL_law_226 : decode cL_law 226 = .ok (.iconst 3, 1) := by decide +kernel
theorem dL_law_227 : decode cL_law 227 = .ok (.invokestatic 58, 3) := by decide +kernel
theorem dL_law_230 : decode cL_law 230 = .ok (.imul, 1) := by decide +kernel
theorem dL_law_231 : decode cL_law 231 = .ok (.iload 8, 2) := by decide +kernel
theorem dL_law_233 : decode cL_law 233 = .ok (.iconst 5, 1) := by decide +kernel
theorem dL_law_234 : decode cL_law 234 = .ok (.ishr, 1) := by decide +kernel
theorem dL_law_235 : decode cL_law 235 = .ok (.iconst 2, 1) := by decide +kernel
theorem dL_law_236 : decode cL_law 236 = .ok (.invokestatic 58, 3) := by decide +kernel
theorem dL_law_239 : decode cL_law 239 = .ok (.iconst 5, 1) := by decide +kernel
theorem dL_law_240 : decode cL_law 240 = .ok (.imul, 1) := by decide +kernel
theorem dL_law_241 : decode cL_law 241 = .ok (.iadd, 1) := by decide +kernel
theorem dL_law_242 : decode cL_law 242 = .ok (.invokestatic 150, 3) := by decide +kernel
theorem dL_law_245 : decode cL_law 245 = .ok (.ifCond .eq 26, 3) := by decide +kernel
theorem dL_law_248 : decode cL_law 248 = .ok (.aload_n 1, 1) := by decide +kernel
theorem dL_law_249 : decode cL_law 249 = .ok (.aload_n 2, 1) := by decide +kernel
theorem dL_law_250 : decode cL_law 250 = .ok (.aload_n 3, 1) := by decide +kernel
theorem dL_law_251 : decode cL_law 251 = .ok (.aload 4, 2) := by decide +kernel
theorem dL_law_253 : decode cL_law 253 = .ok (.iload 8, 2) := by decide +kernel
theorem dL_law_255 : decode cL_law 255 = .ok (.iconst 3, 1) := by decide +kernel
theorem dL_law_256 : decode cL_law 256 = .ok (.ishr, 1) := by decide +kernel
theorem dL_law_257 : decode cL_law 257 = .ok (.iconst 3, 1) := by decide +kernel
theorem dL_law_258 : decode cL_law 258 = .ok (.invokestatic 58, 3) := by decide +kernel
theorem dL_law_261 : decode cL_law 261 = .ok (.invokestatic 154, 3) := by decide +kernel
theorem dL_law_264 : decode cL_law 264 = .ok (.ifCond .eq 7, 3) := by decide +kernel
theorem dL_law_267 : decode cL_law 267 = .ok (.iconst 1, 1) := by decide +kernel
theorem dL_law_268 : decode cL_law 268 = .ok (.goto 4, 3) := by decide +kernel
theorem dL_law_271 : decode cL_law 271 = .ok (.iconst 0, 1) := by decide +kernel
theorem dL_law_272 : decode cL_law 272 = .ok (.istore 5, 2) := by decide +kernel
theorem dL_law_274 : decode cL_law 274 = .ok (.iload 8, 2) := by decide +kernel
theorem dL_law_276 : decode cL_law 276 = .ok (.iconst 4, 1) := by decide +kernel
theorem dL_law_277 : decode cL_law 277 = .ok (.ishr, 1) := by decide +kernel
theorem dL_law_278 : decode cL_law 278 = .ok (.iconst 3, 1) := by decide +kernel
theorem dL_law_279 : decode cL_law 279 = .ok (.invokestatic 58, 3) := by decide +kernel
theorem dL_law_282 : decode cL_law 282 = .ok (.istore 9, 2) := by decide +kernel
theorem dL_law_284 : decode cL_law 284 = .ok (.iload 8, 2) := by decide +kernel
theorem dL_law_286 : decode cL_law 286 = .ok (.bipush 6, 2) := by decide +kernel
theorem dL_law_288 : decode cL_law 288 = .ok (.ishr, 1) := by decide +kernel
theorem dL_law_289 : decode cL_law 289 = .ok (.bipush 84, 2) := by decide +kernel
theorem dL_law_291 : decode cL_law 291 = .ok (.invokestatic 58, 3) := by decide +kernel
theorem dL_law_294 : decode cL_law 294 = .ok (.istore 10, 2) := by decide +kernel
theorem dL_law_296 : decode cL_law 296 = .ok (.iload 7, 2) := by decide +kernel
theorem dL_law_298 : decode cL_law 298 = .ok (.iconst 5, 1) := by decide +kernel
theorem dL_law_299 : decode cL_law 299 = .ok (.ishr, 1) := by decide +kernel
theorem dL_law_300 : decode cL_law 300 = .ok (.bipush 20, 2) := by decide +kernel
theorem dL_law_302 : decode cL_law 302 = .ok (.invokestatic 58, 3) := by decide +kernel
theorem dL_law_305 : decode cL_law 305 = .ok (.istore 11, 2) := by decide +kernel
theorem dL_law_307 : decode cL_law 307 = .ok (.iload 11, 2) := by decide +kernel
theorem dL_law_309 : decode cL_law 309 = .ok (.iconst 1, 1) := by decide +kernel
theorem dL_law_310 : decode cL_law 310 = .ok (.iadd, 1) := by decide +kernel
theorem dL_law_311 : decode cL_law 311 = .ok (.iload 8, 2) := by decide +kernel
theorem dL_law_313 : decode cL_law 313 = .ok (.bipush 9, 2) := by decide +kernel
theorem dL_law_315 : decode cL_law 315 = .ok (.ishr, 1) := by decide +kernel
theorem dL_law_316 : decode cL_law 316 = .ok (.iconst 4, 1) := by decide +kernel
theorem dL_law_317 : decode cL_law 317 = .ok (.invokestatic 58, 3) := by decide +kernel
theorem dL_law_320 : decode cL_law 320 = .ok (.iadd, 1) := by decide +kernel
theorem dL_law_321 : decode cL_law 321 = .ok (.istore 12, 2) := by decide +kernel
theorem dL_law_323 : decode cL_law 323 = .ok (.iload 5, 2) := by decide +kernel
theorem dL_law_325 : decode cL_law 325 = .ok (.ifCond .eq 121, 3) := by decide +kernel
theorem dL_law_328 : decode cL_law 328 = .ok (.aload_n 1, 1) := by decide +kernel
theorem dL_law_329 : decode cL_law 329 = .ok (.iload 9, 2) := by decide +kernel
theorem dL_law_331 : decode cL_law 331 = .ok (.iload 10, 2) := by decide +kernel
theorem dL_law_333 : decode cL_law 333 = .ok (.iload 11, 2) := by decide +kernel
theorem dL_law_335 : decode cL_law 335 = .ok (.iload 12, 2) := by decide +kernel
theorem dL_law_337 : decode cL_law 337 = .ok (.iconst 1, 1) := by decide +kernel
theorem dL_law_338 : decode cL_law 338 = .ok (.iload 7, 2) := by decide +kernel
theorem dL_law_340 : decode cL_law 340 = .ok (.bipush 7, 2) := by decide +kernel
theorem dL_law_342 : decode cL_law 342 = .ok (.ishr, 1) := by decide +kernel
theorem dL_law_343 : decode cL_law 343 = .ok (.bipush 9, 2) := by decide +kernel
theorem dL_law_345 : decode cL_law 345 = .ok (.invokestatic 58, 3) := by decide +kernel
theorem dL_law_348 : decode cL_law 348 = .ok (.iadd, 1) := by decide +kernel
theorem dL_law_349 : decode cL_law 349 = .ok (.invokevirtual 34, 3) := by decide +kernel
theorem dL_law_352 : decode cL_law 352 = .ok (.aload_n 2, 1) := by decide +kernel
theorem dL_law_353 : decode cL_law 353 = .ok (.aload_n 3, 1) := by decide +kernel
theorem dL_law_354 : decode cL_law 354 = .ok (.aload 4, 2) := by decide +kernel
theorem dL_law_356 : decode cL_law 356 = .ok (.iload 9, 2) := by decide +kernel
theorem dL_law_358 : decode cL_law 358 = .ok (.iload 10, 2) := by decide +kernel
theorem dL_law_360 : decode cL_law 360 = .ok (.iload 11, 2) := by decide +kernel
theorem dL_law_362 : decode cL_law 362 = .ok (.iload 12, 2) := by decide +kernel
theorem dL_law_364 : decode cL_law 364 = .ok (.iconst 1, 1) := by decide +kernel
theorem dL_law_365 : decode cL_law 365 = .ok (.iload 7, 2) := by decide +kernel
theorem dL_law_367 : decode cL_law 367 = .ok (.bipush 7, 2) := by decide +kernel
theorem dL_law_369 : decode cL_law 369 = .ok (.ishr, 1) := by decide +kernel
theorem dL_law_370 : decode cL_law 370 = .ok (.bipush 9, 2) := by decide +kernel
theorem dL_law_372 : decode cL_law 372 = .ok (.invokestatic 58, 3) := by decide +kernel
theorem dL_law_375 : decode cL_law 375 = .ok (.iadd, 1) := by decide +kernel
theorem dL_law_376 : decode cL_law 376 = .ok (.invokestatic 30, 3) := by decide +kernel
theorem dL_law_379 : decode cL_law 379 = .ok (.if_icmp .ne 67, 3) := by decide +kernel
theorem dL_law_382 : decode cL_law 382 = .ok (.aload_n 1, 1) := by decide +kernel
theorem dL_law_383 : decode cL_law 383 = .ok (.iload 9, 2) := by decide +kernel
theorem dL_law_385 : decode cL_law 385 = .ok (.iload 10, 2) := by decide +kernel
theorem dL_law_387 : decode cL_law 387 = .ok (.iload 11, 2) := by decide +kernel
theorem dL_law_389 : decode cL_law 389 = .ok (.iload 12, 2) := by decide +kernel
theorem dL_law_391 : decode cL_law 391 = .ok (.invokevirtual 157, 3) := by decide +kernel
theorem dL_law_394 : decode cL_law 394 = .ok (.aload_n 2, 1) := by decide +kernel
theorem dL_law_395 : decode cL_law 395 = .ok (.iload 9, 2) := by decide +kernel
theorem dL_law_397 : decode cL_law 397 = .ok (.iload 10, 2) := by decide +kernel
theorem dL_law_399 : decode cL_law 399 = .ok (.bipush 7, 2) := by decide +kernel
theorem dL_law_401 : decode cL_law 401 = .ok (.irem, 1) := by decide +kernel
theorem dL_law_402 : decode cL_law 402 = .ok (.iload 12, 2) := by decide +kernel
theorem dL_law_404 : decode cL_law 404 = .ok (.iload 11, 2) := by decide +kernel
theorem dL_law_406 : decode cL_law 406 = .ok (.isub, 1) := by decide +kernel
theorem dL_law_407 : decode cL_law 407 = .ok (.bipush 100, 2) := by decide +kernel
theorem dL_law_409 : decode cL_law 409 = .ok (.invokestatic 44, 3) := by decide +kernel
theorem dL_law_412 : decode cL_law 412 = .ok (.if_icmp .ne 34, 3) := by decide +kernel
theorem dL_law_415 : decode cL_law 415 = .ok (.aload_n 1, 1) := by decide +kernel
theorem dL_law_416 : decode cL_law 416 = .ok (.aload_n 2, 1) := by decide +kernel
theorem dL_law_417 : decode cL_law 417 = .ok (.aload_n 3, 1) := by decide +kernel
theorem dL_law_418 : decode cL_law 418 = .ok (.aload 4, 2) := by decide +kernel
theorem dL_law_420 : decode cL_law 420 = .ok (.iload 9, 2) := by decide +kernel
theorem dL_law_422 : decode cL_law 422 = .ok (.iload 10, 2) := by decide +kernel
theorem dL_law_424 : decode cL_law 424 = .ok (.iconst 1, 1) := by decide +kernel
theorem dL_law_425 : decode cL_law 425 = .ok (.iload 7, 2) := by decide +kernel
theorem dL_law_427 : decode cL_law 427 = .ok (.bipush 11, 2) := by decide +kernel
theorem dL_law_429 : decode cL_law 429 = .ok (.ishr, 1) := by decide +kernel
theorem dL_law_430 : decode cL_law 430 = .ok (.bipush 12, 2) := by decide +kernel
theorem dL_law_432 : decode cL_law 432 = .ok (.invokestatic 58, 3) := by decide +kernel
theorem dL_law_435 : decode cL_law 435 = .ok (.iadd, 1) := by decide +kernel
theorem dL_law_436 : decode cL_law 436 = .ok (.invokestatic 161, 3) := by decide +kernel
theorem dL_law_439 : decode cL_law 439 = .ok (.ifCond .eq 7, 3) := by decide +kernel
theorem dL_law_442 : decode cL_law 442 = .ok (.iconst 1, 1) := by decide +kernel
theorem dL_law_443 : decode cL_law 443 = .ok (.goto 4, 3) := by decide +kernel
theorem dL_law_446 : decode cL_law 446 = .ok (.iconst 0, 1) := by decide +kernel
theorem dL_law_447 : decode cL_law 447 = .ok (.istore 5, 2) := by decide +kernel
theorem dL_law_449 : decode cL_law 449 = .ok (.iinc 6 1, 3) := by decide +kernel
theorem dL_law_452 : decode cL_law 452 = .ok (.goto (-360), 3) := by decide +kernel
theorem dL_law_455 : decode cL_law 455 = .ok (.iload 5, 2) := by decide +kernel
theorem dL_law_457 : decode cL_law 457 = .ok (.ireturn, 1) := by decide +kernel
