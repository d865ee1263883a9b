/-! DECODE ROWS, printed by wip/whole/gen/tables.py -/
theorem d_RR_seekNthFold_3 : decode prog_1_method_58_code 3 = .ok (.iload_n 1, 1) := by decide +kernel
theorem d_RR_seekNthFold_4 : decode prog_1_method_58_code 4 = .ok (.iconst 1, 1) := by decide +kernel
theorem d_RR_seekNthFold_5 : decode prog_1_method_58_code 5 = .ok (.isub, 1) := by decide +kernel
theorem d_RR_seekNthFold_6 : decode prog_1_method_58_code 6 = .ok (.iaload, 1) := by decide +kernel
theorem d_RR_seekNthFold_7 : decode prog_1_method_58_code 7 = .ok (.istore_n 3, 1) := by decide +kernel
theorem d_RR_seekNthFold_8 : decode prog_1_method_58_code 8 = .ok (.iload_n 2, 1) := by decide +kernel
theorem d_RR_seekNthFold_9 : decode prog_1_method_58_code 9 = .ok (.istore 4, 2) := by decide +kernel
theorem d_RR_seekNthFold_11 : decode prog_1_method_58_code 11 = .ok (.iconst 0, 1) := by decide +kernel
theorem d_RR_seekNthFold_12 : decode prog_1_method_58_code 12 = .ok (.istore 5, 2) := by decide +kernel
theorem d_RR_seekNthFold_14 : decode prog_1_method_58_code 14 = .ok (.iload 5, 2) := by decide +kernel
theorem d_RR_seekNthFold_16 : decode prog_1_method_58_code 16 = .ok (.iload_n 1, 1) := by decide +kernel
theorem d_RR_seekNthFold_17 : decode prog_1_method_58_code 17 = .ok (.if_icmp .ge 21, 3) := by decide +kernel
theorem d_RR_seekNthFold_20 : decode prog_1_method_58_code 20 = .ok (.iload 4, 2) := by decide +kernel
theorem d_RR_seekNthFold_22 : decode prog_1_method_58_code 22 = .ok (.iload_n 3, 1) := by decide +kernel
theorem d_RR_seekNthFold_23 : decode prog_1_method_58_code 23 = .ok (.if_icmp .lt 15, 3) := by decide +kernel
theorem d_RR_seekNthFold_26 : decode prog_1_method_58_code 26 = .ok (.iload 4, 2) := by decide +kernel
theorem d_RR_seekNthFold_28 : decode prog_1_method_58_code 28 = .ok (.iload_n 3, 1) := by decide +kernel
theorem d_RR_seekNthFold_29 : decode prog_1_method_58_code 29 = .ok (.isub, 1) := by decide +kernel
theorem d_RR_seekNthFold_30 : decode prog_1_method_58_code 30 = .ok (.istore 4, 2) := by decide +kernel
theorem d_RR_seekNthFold_32 : decode prog_1_method_58_code 32 = .ok (.iinc 5 1, 3) := by decide +kernel
theorem d_RR_seekNthFold_35 : decode prog_1_method_58_code 35 = .ok (.goto (-21), 3) := by decide +kernel
theorem d_RR_seekNthFold_38 : decode prog_1_method_58_code 38 = .ok (.iload 5, 2) := by decide +kernel
theorem d_RR_seekNthFold_40 : decode prog_1_method_58_code 40 = .ok (.iload_n 1, 1) := by decide +kernel
theorem d_RR_seekNthFold_41 : decode prog_1_method_58_code 41 = .ok (.if_icmp .ne 5, 3) := by decide +kernel
theorem d_RR_seekNthFold_44 : decode prog_1_method_58_code 44 = .ok (.iconst 0, 1) := by decide +kernel
theorem d_RR_seekNthFold_45 : decode prog_1_method_58_code 45 = .ok (.ireturn, 1) := by decide +kernel
theorem d_RR_seekNthFold_46 : decode prog_1_method_58_code 46 = .ok (.aload_n 0, 1) := by decide +kernel
theorem d_RR_seekNthFold_47 : decode prog_1_method_58_code 47 = .ok (.getfield 39, 3) := by decide +kernel
theorem d_RR_seekNthFold_50 : decode prog_1_method_58_code 50 = .ok (.ldc 117, 2) := by decide +kernel
theorem d_RR_seekNthFold_52 : decode prog_1_method_58_code 52 = .ok (.invokestatic 270, 3) := by decide +kernel
theorem d_RR_seekNthFold_55 : decode prog_1_method_58_code 55 = .ok (.aload_n 0, 1) := by decide +kernel
theorem d_RR_seekNthFold_56 : decode prog_1_method_58_code 56 = .ok (.getfield 36, 3) := by decide +kernel
theorem d_RR_seekNthFold_59 : decode prog_1_method_58_code 59 = .ok (.iconst 0, 1) := by decide +kernel
theorem d_RR_seekNthFold_60 : decode prog_1_method_58_code 60 = .ok (.iload 5, 2) := by decide +kernel
theorem d_RR_seekNthFold_62 : decode prog_1_method_58_code 62 = .ok (.iastore, 1) := by decide +kernel
theorem d_RR_seekNthFold_63 : decode prog_1_method_58_code 63 = .ok (.aload_n 0, 1) := by decide +kernel
theorem d_RR_seekNthFold_64 : decode prog_1_method_58_code 64 = .ok (.getfield 39, 3) := by decide +kernel
theorem d_RR_seekNthFold_67 : decode prog_1_method_58_code 67 = .ok (.iload 5, 2) := by decide +kernel
theorem d_RR_seekNthFold_69 : decode prog_1_method_58_code 69 = .ok (.iconst 0, 1) := by decide +kernel
theorem d_RR_seekNthFold_70 : decode prog_1_method_58_code 70 = .ok (.iastore, 1) := by decide +kernel
theorem d_RR_seekNthFold_71 : decode prog_1_method_58_code 71 = .ok (.iload_n 1, 1) := by decide +kernel
theorem d_RR_seekNthFold_72 : decode prog_1_method_58_code 72 = .ok (.iconst 1, 1) := by decide +kernel
theorem d_RR_seekNthFold_73 : decode prog_1_method_58_code 73 = .ok (.iload 4, 2) := by decide +kernel
theorem d_RR_seekNthFold_75 : decode prog_1_method_58_code 75 = .ok (.aload_n 0, 1) := by decide +kernel
theorem d_RR_seekNthFold_76 : decode prog_1_method_58_code 76 = .ok (.getfield 36, 3) := by decide +kernel
theorem d_RR_seekNthFold_79 : decode prog_1_method_58_code 79 = .ok (.aload_n 0, 1) := by decide +kernel
theorem d_RR_seekNthFold_80 : decode prog_1_method_58_code 80 = .ok (.getfield 39, 3) := by decide +kernel
theorem d_RR_seekNthFold_83 : decode prog_1_method_58_code 83 = .ok (.invokestatic 299, 3) := by decide +kernel
theorem d_RR_seekNthFold_86 : decode prog_1_method_58_code 86 = .ok (.ifCond .ge 7, 3) := by decide +kernel
theorem d_RR_seekNthFold_89 : decode prog_1_method_58_code 89 = .ok (.iconst 1, 1) := by decide +kernel
theorem d_RR_seekNthFold_90 : decode prog_1_method_58_code 90 = .ok (.goto 4, 3) := by decide +kernel
theorem d_RR_seekNthFold_93 : decode prog_1_method_58_code 93 = .ok (.iconst 0, 1) := by decide +kernel
theorem d_RR_seekNthFold_94 : decode prog_1_method_58_code 94 = .ok (.ireturn, 1) := by decide +kernel
theorem d_RR_seekFold_0 : decode prog_1_method_59_code 0 = .ok (.iload_n 1, 1) := by decide +kernel
theorem d_RR_seekFold_1 : decode prog_1_method_59_code 1 = .ok (.iload_n 0, 1) := by decide +kernel
theorem d_RR_seekFold_2 : decode prog_1_method_59_code 2 = .ok (.if_icmp .lt 7, 3) := by decide +kernel
theorem d_RR_seekFold_5 : decode prog_1_method_59_code 5 = .ok (.iload_n 2, 1) := by decide +kernel
theorem d_RR_seekFold_6 : decode prog_1_method_59_code 6 = .ok (.iconst 1, 1) := by decide +kernel
theorem d_RR_seekFold_7 : decode prog_1_method_59_code 7 = .ok (.isub, 1) := by decide +kernel
theorem d_RR_seekFold_8 : decode prog_1_method_59_code 8 = .ok (.ireturn, 1) := by decide +kernel
theorem d_RR_seekFold_9 : decode prog_1_method_59_code 9 = .ok (.iload_n 2, 1) := by decide +kernel
theorem d_RR_seekFold_10 : decode prog_1_method_59_code 10 = .ok (.istore 5, 2) := by decide +kernel
theorem d_RR_seekFold_12 : decode prog_1_method_59_code 12 = .ok (.iconst 0, 1) := by decide +kernel
theorem d_RR_seekFold_13 : decode prog_1_method_59_code 13 = .ok (.istore 6, 2) := by decide +kernel
theorem d_RR_seekFold_15 : decode prog_1_method_59_code 15 = .ok (.iload 6, 2) := by decide +kernel
theorem d_RR_seekFold_17 : decode prog_1_method_59_code 17 = .ok (.iload_n 0, 1) := by decide +kernel
theorem d_RR_seekFold_18 : decode prog_1_method_59_code 18 = .ok (.if_icmp .ge 72, 3) := by decide +kernel
theorem d_RR_seekFold_21 : decode prog_1_method_59_code 21 = .ok (.aload 4, 2) := by decide +kernel
theorem d_RR_seekFold_23 : decode prog_1_method_59_code 23 = .ok (.iload 6, 2) := by decide +kernel
theorem d_RR_seekFold_25 : decode prog_1_method_59_code 25 = .ok (.iaload, 1) := by decide +kernel
theorem d_RR_seekFold_26 : decode prog_1_method_59_code 26 = .ok (.ldc 117, 2) := by decide +kernel
theorem d_RR_seekFold_28 : decode prog_1_method_59_code 28 = .ok (.if_icmp .ne 56, 3) := by decide +kernel
theorem d_RR_seekFold_31 : decode prog_1_method_59_code 31 = .ok (.iload_n 0, 1) := by decide +kernel
theorem d_RR_seekFold_32 : decode prog_1_method_59_code 32 = .ok (.iload_n 1, 1) := by decide +kernel
theorem d_RR_seekFold_33 : decode prog_1_method_59_code 33 = .ok (.iload 6, 2) := by decide +kernel
theorem d_RR_seekFold_35 : decode prog_1_method_59_code 35 = .ok (.aload_n 3, 1) := by decide +kernel
theorem d_RR_seekFold_36 : decode prog_1_method_59_code 36 = .ok (.aload 4, 2) := by decide +kernel
theorem d_RR_seekFold_38 : decode prog_1_method_59_code 38 = .ok (.invokestatic 303, 3) := by decide +kernel
theorem d_RR_seekFold_41 : decode prog_1_method_59_code 41 = .ok (.ifCond .eq 43, 3) := by decide +kernel
theorem d_RR_seekFold_44 : decode prog_1_method_59_code 44 = .ok (.aload_n 3, 1) := by decide +kernel
theorem d_RR_seekFold_45 : decode prog_1_method_59_code 45 = .ok (.iload_n 1, 1) := by decide +kernel
theorem d_RR_seekFold_46 : decode prog_1_method_59_code 46 = .ok (.iload 6, 2) := by decide +kernel
theorem d_RR_seekFold_48 : decode prog_1_method_59_code 48 = .ok (.iastore, 1) := by decide +kernel
theorem d_RR_seekFold_49 : decode prog_1_method_59_code 49 = .ok (.aload 4, 2) := by decide +kernel
theorem d_RR_seekFold_51 : decode prog_1_method_59_code 51 = .ok (.iload 6, 2) := by decide +kernel
theorem d_RR_seekFold_53 : decode prog_1_method_59_code 53 = .ok (.iload_n 1, 1) := by decide +kernel
theorem d_RR_seekFold_54 : decode prog_1_method_59_code 54 = .ok (.iastore, 1) := by decide +kernel
theorem d_RR_seekFold_55 : decode prog_1_method_59_code 55 = .ok (.iload_n 0, 1) := by decide +kernel
theorem d_RR_seekFold_56 : decode prog_1_method_59_code 56 = .ok (.iload_n 1, 1) := by decide +kernel
theorem d_RR_seekFold_57 : decode prog_1_method_59_code 57 = .ok (.iconst 1, 1) := by decide +kernel
theorem d_RR_seekFold_58 : decode prog_1_method_59_code 58 = .ok (.iadd, 1) := by decide +kernel
theorem d_RR_seekFold_59 : decode prog_1_method_59_code 59 = .ok (.iload 5, 2) := by decide +kernel
theorem d_RR_seekFold_61 : decode prog_1_method_59_code 61 = .ok (.aload_n 3, 1) := by decide +kernel
theorem d_RR_seekFold_62 : decode prog_1_method_59_code 62 = .ok (.aload 4, 2) := by decide +kernel
theorem d_RR_seekFold_64 : decode prog_1_method_59_code 64 = .ok (.invokestatic 299, 3) := by decide +kernel
theorem d_RR_seekFold_67 : decode prog_1_method_59_code 67 = .ok (.istore 5, 2) := by decide +kernel
theorem d_RR_seekFold_69 : decode prog_1_method_59_code 69 = .ok (.iload 5, 2) := by decide +kernel
theorem d_RR_seekFold_71 : decode prog_1_method_59_code 71 = .ok (.ifCond .ge 6, 3) := by decide +kernel
theorem d_RR_seekFold_74 : decode prog_1_method_59_code 74 = .ok (.iload 5, 2) := by decide +kernel
theorem d_RR_seekFold_76 : decode prog_1_method_59_code 76 = .ok (.ireturn, 1) := by decide +kernel
theorem d_RR_seekFold_77 : decode prog_1_method_59_code 77 = .ok (.aload 4, 2) := by decide +kernel
theorem d_RR_seekFold_79 : decode prog_1_method_59_code 79 = .ok (.iload 6, 2) := by decide +kernel
theorem d_RR_seekFold_81 : decode prog_1_method_59_code 81 = .ok (.ldc 117, 2) := by decide +kernel
theorem d_RR_seekFold_83 : decode prog_1_method_59_code 83 = .ok (.iastore, 1) := by decide +kernel
theorem d_RR_seekFold_84 : decode prog_1_method_59_code 84 = .ok (.iinc 6 1, 3) := by decide +kernel
theorem d_RR_seekFold_87 : decode prog_1_method_59_code 87 = .ok (.goto (-72), 3) := by decide +kernel
theorem d_RR_seekFold_90 : decode prog_1_method_59_code 90 = .ok (.iload 5, 2) := by decide +kernel
theorem d_RR_seekFold_92 : decode prog_1_method_59_code 92 = .ok (.ireturn, 1) := by decide +kernel
theorem d_RR_fits_0 : decode prog_1_method_60_code 0 = .ok (.iconst 0, 1) := by decide +kernel
theorem d_RR_fits_1 : decode prog_1_method_60_code 1 = .ok (.istore 5, 2) := by decide +kernel
theorem d_RR_fits_3 : decode prog_1_method_60_code 3 = .ok (.iload 5, 2) := by decide +kernel
theorem d_RR_fits_5 : decode prog_1_method_60_code 5 = .ok (.iconst 2, 1) := by decide +kernel
theorem d_RR_fits_6 : decode prog_1_method_60_code 6 = .ok (.if_icmp .ge 55, 3) := by decide +kernel
theorem d_RR_fits_9 : decode prog_1_method_60_code 9 = .ok (.iload_n 0, 1) := by decide +kernel
theorem d_RR_fits_10 : decode prog_1_method_60_code 10 = .ok (.iload_n 2, 1) := by decide +kernel
theorem d_RR_fits_11 : decode prog_1_method_60_code 11 = .ok (.iload 5, 2) := by decide +kernel
theorem d_RR_fits_13 : decode prog_1_method_60_code 13 = .ok (.invokestatic 307, 3) := by decide +kernel
theorem d_RR_fits_16 : decode prog_1_method_60_code 16 = .ok (.istore 6, 2) := by decide +kernel
theorem d_RR_fits_18 : decode prog_1_method_60_code 18 = .ok (.iload 6, 2) := by decide +kernel
theorem d_RR_fits_20 : decode prog_1_method_60_code 20 = .ok (.ldc 117, 2) := by decide +kernel
theorem d_RR_fits_22 : decode prog_1_method_60_code 22 = .ok (.if_icmp .eq 33, 3) := by decide +kernel
theorem d_RR_fits_25 : decode prog_1_method_60_code 25 = .ok (.aload 4, 2) := by decide +kernel
theorem d_RR_fits_27 : decode prog_1_method_60_code 27 = .ok (.iload 6, 2) := by decide +kernel
theorem d_RR_fits_29 : decode prog_1_method_60_code 29 = .ok (.iaload, 1) := by decide +kernel
theorem d_RR_fits_30 : decode prog_1_method_60_code 30 = .ok (.ldc 117, 2) := by decide +kernel
theorem d_RR_fits_32 : decode prog_1_method_60_code 32 = .ok (.if_icmp .eq 23, 3) := by decide +kernel
theorem d_RR_fits_35 : decode prog_1_method_60_code 35 = .ok (.iload_n 0, 1) := by decide +kernel
theorem d_RR_fits_36 : decode prog_1_method_60_code 36 = .ok (.aload 4, 2) := by decide +kernel
theorem d_RR_fits_38 : decode prog_1_method_60_code 38 = .ok (.iload 6, 2) := by decide +kernel
theorem d_RR_fits_40 : decode prog_1_method_60_code 40 = .ok (.iaload, 1) := by decide +kernel
theorem d_RR_fits_41 : decode prog_1_method_60_code 41 = .ok (.iload_n 1, 1) := by decide +kernel
theorem d_RR_fits_42 : decode prog_1_method_60_code 42 = .ok (.iload 5, 2) := by decide +kernel
theorem d_RR_fits_44 : decode prog_1_method_60_code 44 = .ok (.aload_n 3, 1) := by decide +kernel
theorem d_RR_fits_45 : decode prog_1_method_60_code 45 = .ok (.aload 4, 2) := by decide +kernel
theorem d_RR_fits_47 : decode prog_1_method_60_code 47 = .ok (.invokestatic 311, 3) := by decide +kernel
theorem d_RR_fits_50 : decode prog_1_method_60_code 50 = .ok (.ifCond .ne 5, 3) := by decide +kernel
theorem d_RR_fits_53 : decode prog_1_method_60_code 53 = .ok (.iconst 0, 1) := by decide +kernel
theorem d_RR_fits_54 : decode prog_1_method_60_code 54 = .ok (.ireturn, 1) := by decide +kernel
theorem d_RR_fits_55 : decode prog_1_method_60_code 55 = .ok (.iinc 5 1, 3) := by decide +kernel
theorem d_RR_fits_58 : decode prog_1_method_60_code 58 = .ok (.goto (-55), 3) := by decide +kernel
theorem d_RR_fits_61 : decode prog_1_method_60_code 61 = .ok (.iconst 1, 1) := by decide +kernel
theorem d_RR_fits_62 : decode prog_1_method_60_code 62 = .ok (.ireturn, 1) := by decide +kernel
theorem d_RR_mateOf_0 : decode prog_1_method_62_code 0 = .ok (.iload_n 1, 1) := by decide +kernel
theorem d_RR_mateOf_1 : decode prog_1_method_62_code 1 = .ok (.iconst 1, 1) := by decide +kernel
theorem d_RR_mateOf_2 : decode prog_1_method_62_code 2 = .ok (.iand, 1) := by decide +kernel
theorem d_RR_mateOf_3 : decode prog_1_method_62_code 3 = .ok (.iload_n 2, 1) := by decide +kernel
theorem d_RR_mateOf_4 : decode prog_1_method_62_code 4 = .ok (.if_icmp .ne 9, 3) := by decide +kernel
theorem d_RR_mateOf_7 : decode prog_1_method_62_code 7 = .ok (.iload_n 1, 1) := by decide +kernel
theorem d_RR_mateOf_8 : decode prog_1_method_62_code 8 = .ok (.iconst 1, 1) := by decide +kernel
theorem d_RR_mateOf_9 : decode prog_1_method_62_code 9 = .ok (.iadd, 1) := by decide +kernel
theorem d_RR_mateOf_10 : decode prog_1_method_62_code 10 = .ok (.goto 6, 3) := by decide +kernel
theorem d_RR_mateOf_13 : decode prog_1_method_62_code 13 = .ok (.iload_n 1, 1) := by decide +kernel
theorem d_RR_mateOf_14 : decode prog_1_method_62_code 14 = .ok (.iconst 1, 1) := by decide +kernel
theorem d_RR_mateOf_15 : decode prog_1_method_62_code 15 = .ok (.isub, 1) := by decide +kernel
theorem d_RR_mateOf_16 : decode prog_1_method_62_code 16 = .ok (.istore_n 3, 1) := by decide +kernel
theorem d_RR_mateOf_17 : decode prog_1_method_62_code 17 = .ok (.iload_n 3, 1) := by decide +kernel
theorem d_RR_mateOf_18 : decode prog_1_method_62_code 18 = .ok (.ifCond .lt 8, 3) := by decide +kernel
theorem d_RR_mateOf_21 : decode prog_1_method_62_code 21 = .ok (.iload_n 3, 1) := by decide +kernel
theorem d_RR_mateOf_22 : decode prog_1_method_62_code 22 = .ok (.iload_n 0, 1) := by decide +kernel
theorem d_RR_mateOf_23 : decode prog_1_method_62_code 23 = .ok (.if_icmp .lt 8, 3) := by decide +kernel
theorem d_RR_mateOf_26 : decode prog_1_method_62_code 26 = .ok (.ldc 117, 2) := by decide +kernel
theorem d_RR_mateOf_28 : decode prog_1_method_62_code 28 = .ok (.goto 4, 3) := by decide +kernel
theorem d_RR_mateOf_31 : decode prog_1_method_62_code 31 = .ok (.iload_n 3, 1) := by decide +kernel
theorem d_RR_mateOf_32 : decode prog_1_method_62_code 32 = .ok (.ireturn, 1) := by decide +kernel
theorem d_RR_closes_0 : decode prog_1_method_61_code 0 = .ok (.iload_n 1, 1) := by decide +kernel
theorem d_RR_closes_1 : decode prog_1_method_61_code 1 = .ok (.iconst 1, 1) := by decide +kernel
theorem d_RR_closes_2 : decode prog_1_method_61_code 2 = .ok (.iadd, 1) := by decide +kernel
theorem d_RR_closes_3 : decode prog_1_method_61_code 3 = .ok (.istore 6, 2) := by decide +kernel
theorem d_RR_closes_5 : decode prog_1_method_61_code 5 = .ok (.iload 6, 2) := by decide +kernel
theorem d_RR_closes_7 : decode prog_1_method_61_code 7 = .ok (.iload_n 2, 1) := by decide +kernel
theorem d_RR_closes_8 : decode prog_1_method_61_code 8 = .ok (.if_icmp .ge 43, 3) := by decide +kernel
theorem d_RR_closes_11 : decode prog_1_method_61_code 11 = .ok (.iload_n 0, 1) := by decide +kernel
theorem d_RR_closes_12 : decode prog_1_method_61_code 12 = .ok (.aload 4, 2) := by decide +kernel
theorem d_RR_closes_14 : decode prog_1_method_61_code 14 = .ok (.iload 6, 2) := by decide +kernel
theorem d_RR_closes_16 : decode prog_1_method_61_code 16 = .ok (.iaload, 1) := by decide +kernel
theorem d_RR_closes_17 : decode prog_1_method_61_code 17 = .ok (.iload_n 3, 1) := by decide +kernel
theorem d_RR_closes_18 : decode prog_1_method_61_code 18 = .ok (.invokestatic 307, 3) := by decide +kernel
theorem d_RR_closes_21 : decode prog_1_method_61_code 21 = .ok (.istore 7, 2) := by decide +kernel
theorem d_RR_closes_23 : decode prog_1_method_61_code 23 = .ok (.iload 7, 2) := by decide +kernel
theorem d_RR_closes_25 : decode prog_1_method_61_code 25 = .ok (.ldc 117, 2) := by decide +kernel
theorem d_RR_closes_27 : decode prog_1_method_61_code 27 = .ok (.if_icmp .eq 18, 3) := by decide +kernel
theorem d_RR_closes_30 : decode prog_1_method_61_code 30 = .ok (.aload 5, 2) := by decide +kernel
theorem d_RR_closes_32 : decode prog_1_method_61_code 32 = .ok (.iload 7, 2) := by decide +kernel
theorem d_RR_closes_34 : decode prog_1_method_61_code 34 = .ok (.iaload, 1) := by decide +kernel
theorem d_RR_closes_35 : decode prog_1_method_61_code 35 = .ok (.iload_n 1, 1) := by decide +kernel
theorem d_RR_closes_36 : decode prog_1_method_61_code 36 = .ok (.iload_n 2, 1) := by decide +kernel
theorem d_RR_closes_37 : decode prog_1_method_61_code 37 = .ok (.invokestatic 295, 3) := by decide +kernel
theorem d_RR_closes_40 : decode prog_1_method_61_code 40 = .ok (.ifCond .ne 5, 3) := by decide +kernel
theorem d_RR_closes_43 : decode prog_1_method_61_code 43 = .ok (.iconst 0, 1) := by decide +kernel
theorem d_RR_closes_44 : decode prog_1_method_61_code 44 = .ok (.ireturn, 1) := by decide +kernel
theorem d_RR_closes_45 : decode prog_1_method_61_code 45 = .ok (.iinc 6 1, 3) := by decide +kernel
theorem d_RR_closes_48 : decode prog_1_method_61_code 48 = .ok (.goto (-43), 3) := by decide +kernel
theorem d_RR_closes_51 : decode prog_1_method_61_code 51 = .ok (.iconst 1, 1) := by decide +kernel
theorem d_RR_closes_52 : decode prog_1_method_61_code 52 = .ok (.ireturn, 1) := by decide +kernel
theorem d_JA_copyOf_0 : decode prog_19_method_123_code 0 = .ok (.iload_n 1, 1) := by decide +kernel
theorem d_JA_copyOf_1 : decode prog_19_method_123_code 1 = .ok (.aload_n 0, 1) := by decide +kernel
theorem d_JA_copyOf_2 : decode prog_19_method_123_code 2 = .ok (.arraylength, 1) := by decide +kernel
theorem d_JA_copyOf_3 : decode prog_19_method_123_code 3 = .ok (.if_icmp .ne 11, 3) := by decide +kernel
theorem d_JA_copyOf_6 : decode prog_19_method_123_code 6 = .ok (.aload_n 0, 1) := by decide +kernel
theorem d_JA_copyOf_7 : decode prog_19_method_123_code 7 = .ok (.invokevirtual 316, 3) := by decide +kernel
theorem d_JA_copyOf_10 : decode prog_19_method_123_code 10 = .ok (.checkcast 317, 3) := by decide +kernel
theorem d_JA_copyOf_13 : decode prog_19_method_123_code 13 = .ok (.areturn, 1) := by decide +kernel
theorem d_JA_copyOf_14 : decode prog_19_method_123_code 14 = .ok (.iload_n 1, 1) := by decide +kernel
theorem d_JA_copyOf_15 : decode prog_19_method_123_code 15 = .ok (.newarray .int, 2) := by decide +kernel
theorem d_JA_copyOf_17 : decode prog_19_method_123_code 17 = .ok (.astore_n 2, 1) := by decide +kernel
theorem d_JA_copyOf_18 : decode prog_19_method_123_code 18 = .ok (.aload_n 0, 1) := by decide +kernel
theorem d_JA_copyOf_19 : decode prog_19_method_123_code 19 = .ok (.iconst 0, 1) := by decide +kernel
theorem d_JA_copyOf_20 : decode prog_19_method_123_code 20 = .ok (.aload_n 2, 1) := by decide +kernel
theorem d_JA_copyOf_21 : decode prog_19_method_123_code 21 = .ok (.iconst 0, 1) := by decide +kernel
theorem d_JA_copyOf_22 : decode prog_19_method_123_code 22 = .ok (.aload_n 0, 1) := by decide +kernel
theorem d_JA_copyOf_23 : decode prog_19_method_123_code 23 = .ok (.arraylength, 1) := by decide +kernel
theorem d_JA_copyOf_24 : decode prog_19_method_123_code 24 = .ok (.iload_n 1, 1) := by decide +kernel
theorem d_JA_copyOf_25 : decode prog_19_method_123_code 25 = .ok (.invokestatic 304, 3) := by decide +kernel
theorem d_JA_copyOf_28 : decode prog_19_method_123_code 28 = .ok (.invokestatic 150, 3) := by decide +kernel
theorem d_JA_copyOf_31 : decode prog_19_method_123_code 31 = .ok (.aload_n 2, 1) := by decide +kernel
theorem d_JA_copyOf_32 : decode prog_19_method_123_code 32 = .ok (.areturn, 1) := by decide +kernel
theorem d_RR_count_0 : decode prog_1_method_30_code 0 = .ok (.iload_n 1, 1) := by decide +kernel
theorem d_RR_count_1 : decode prog_1_method_30_code 1 = .ok (.ifCond .lt 8, 3) := by decide +kernel
theorem d_RR_count_4 : decode prog_1_method_30_code 4 = .ok (.iload_n 1, 1) := by decide +kernel
theorem d_RR_count_5 : decode prog_1_method_30_code 5 = .ok (.iconst 4, 1) := by decide +kernel
theorem d_RR_count_6 : decode prog_1_method_30_code 6 = .ok (.if_icmp .le 6, 3) := by decide +kernel
theorem d_RR_count_9 : decode prog_1_method_30_code 9 = .ok (.ldc 50, 2) := by decide +kernel
theorem d_RR_count_11 : decode prog_1_method_30_code 11 = .ok (.ireturn, 1) := by decide +kernel
theorem d_RR_count_12 : decode prog_1_method_30_code 12 = .ok (.iconst 0, 1) := by decide +kernel
theorem d_RR_count_13 : decode prog_1_method_30_code 13 = .ok (.istore_n 2, 1) := by decide +kernel
theorem d_RR_count_14 : decode prog_1_method_30_code 14 = .ok (.iload_n 1, 1) := by decide +kernel
theorem d_RR_count_15 : decode prog_1_method_30_code 15 = .ok (.ifCond .ne 49, 3) := by decide +kernel
theorem d_RR_count_18 : decode prog_1_method_30_code 18 = .ok (.aload_n 0, 1) := by decide +kernel
theorem d_RR_count_19 : decode prog_1_method_30_code 19 = .ok (.getfield 11, 3) := by decide +kernel
theorem d_RR_count_22 : decode prog_1_method_30_code 22 = .ok (.astore_n 3, 1) := by decide +kernel
theorem d_RR_count_23 : decode prog_1_method_30_code 23 = .ok (.aload_n 3, 1) := by decide +kernel
theorem d_RR_count_24 : decode prog_1_method_30_code 24 = .ok (.arraylength, 1) := by decide +kernel
theorem d_RR_count_25 : decode prog_1_method_30_code 25 = .ok (.istore 4, 2) := by decide +kernel
theorem d_RR_count_27 : decode prog_1_method_30_code 27 = .ok (.iconst 0, 1) := by decide +kernel
theorem d_RR_count_28 : decode prog_1_method_30_code 28 = .ok (.istore 5, 2) := by decide +kernel
theorem d_RR_count_30 : decode prog_1_method_30_code 30 = .ok (.iload 5, 2) := by decide +kernel
theorem d_RR_count_32 : decode prog_1_method_30_code 32 = .ok (.iload 4, 2) := by decide +kernel
theorem d_RR_count_34 : decode prog_1_method_30_code 34 = .ok (.if_icmp .ge 28, 3) := by decide +kernel
theorem d_RR_count_37 : decode prog_1_method_30_code 37 = .ok (.aload_n 3, 1) := by decide +kernel
theorem d_RR_count_38 : decode prog_1_method_30_code 38 = .ok (.iload 5, 2) := by decide +kernel
theorem d_RR_count_40 : decode prog_1_method_30_code 40 = .ok (.aaload, 1) := by decide +kernel
theorem d_RR_count_41 : decode prog_1_method_30_code 41 = .ok (.astore 6, 2) := by decide +kernel
theorem d_RR_count_43 : decode prog_1_method_30_code 43 = .ok (.iload_n 2, 1) := by decide +kernel
theorem d_RR_count_44 : decode prog_1_method_30_code 44 = .ok (.aload 6, 2) := by decide +kernel
theorem d_RR_count_46 : decode prog_1_method_30_code 46 = .ok (.ifnonnull 7, 3) := by decide +kernel
theorem d_RR_count_49 : decode prog_1_method_30_code 49 = .ok (.iconst 0, 1) := by decide +kernel
theorem d_RR_count_50 : decode prog_1_method_30_code 50 = .ok (.goto 4, 3) := by decide +kernel
theorem d_RR_count_53 : decode prog_1_method_30_code 53 = .ok (.iconst 1, 1) := by decide +kernel
theorem d_RR_count_54 : decode prog_1_method_30_code 54 = .ok (.iadd, 1) := by decide +kernel
theorem d_RR_count_55 : decode prog_1_method_30_code 55 = .ok (.istore_n 2, 1) := by decide +kernel
theorem d_RR_count_56 : decode prog_1_method_30_code 56 = .ok (.iinc 5 1, 3) := by decide +kernel
theorem d_RR_count_59 : decode prog_1_method_30_code 59 = .ok (.goto (-29), 3) := by decide +kernel
theorem d_RR_count_62 : decode prog_1_method_30_code 62 = .ok (.iload_n 2, 1) := by decide +kernel
theorem d_RR_count_63 : decode prog_1_method_30_code 63 = .ok (.ireturn, 1) := by decide +kernel
theorem d_RR_count_64 : decode prog_1_method_30_code 64 = .ok (.aload_n 0, 1) := by decide +kernel
theorem d_RR_count_65 : decode prog_1_method_30_code 65 = .ok (.getfield 17, 3) := by decide +kernel
theorem d_RR_count_68 : decode prog_1_method_30_code 68 = .ok (.astore_n 3, 1) := by decide +kernel
theorem d_RR_count_69 : decode prog_1_method_30_code 69 = .ok (.aload_n 3, 1) := by decide +kernel
theorem d_RR_count_70 : decode prog_1_method_30_code 70 = .ok (.arraylength, 1) := by decide +kernel
theorem d_RR_count_71 : decode prog_1_method_30_code 71 = .ok (.istore 4, 2) := by decide +kernel
theorem d_RR_count_73 : decode prog_1_method_30_code 73 = .ok (.iconst 0, 1) := by decide +kernel
theorem d_RR_count_74 : decode prog_1_method_30_code 74 = .ok (.istore 5, 2) := by decide +kernel
theorem d_RR_count_76 : decode prog_1_method_30_code 76 = .ok (.iload 5, 2) := by decide +kernel
theorem d_RR_count_78 : decode prog_1_method_30_code 78 = .ok (.iload 4, 2) := by decide +kernel
theorem d_RR_count_80 : decode prog_1_method_30_code 80 = .ok (.if_icmp .ge 32, 3) := by decide +kernel
theorem d_RR_count_83 : decode prog_1_method_30_code 83 = .ok (.aload_n 3, 1) := by decide +kernel
theorem d_RR_count_84 : decode prog_1_method_30_code 84 = .ok (.iload 5, 2) := by decide +kernel
theorem d_RR_count_86 : decode prog_1_method_30_code 86 = .ok (.aaload, 1) := by decide +kernel
theorem d_RR_count_87 : decode prog_1_method_30_code 87 = .ok (.astore 6, 2) := by decide +kernel
theorem d_RR_count_89 : decode prog_1_method_30_code 89 = .ok (.iload_n 2, 1) := by decide +kernel
theorem d_RR_count_90 : decode prog_1_method_30_code 90 = .ok (.aload 6, 2) := by decide +kernel
theorem d_RR_count_92 : decode prog_1_method_30_code 92 = .ok (.iload_n 1, 1) := by decide +kernel
theorem d_RR_count_93 : decode prog_1_method_30_code 93 = .ok (.invokestatic 227, 3) := by decide +kernel
theorem d_RR_count_96 : decode prog_1_method_30_code 96 = .ok (.ifCond .eq 7, 3) := by decide +kernel
theorem d_RR_count_99 : decode prog_1_method_30_code 99 = .ok (.iconst 1, 1) := by decide +kernel
theorem d_RR_count_100 : decode prog_1_method_30_code 100 = .ok (.goto 4, 3) := by decide +kernel
theorem d_RR_count_103 : decode prog_1_method_30_code 103 = .ok (.iconst 0, 1) := by decide +kernel
theorem d_RR_count_104 : decode prog_1_method_30_code 104 = .ok (.iadd, 1) := by decide +kernel
theorem d_RR_count_105 : decode prog_1_method_30_code 105 = .ok (.istore_n 2, 1) := by decide +kernel
theorem d_RR_count_106 : decode prog_1_method_30_code 106 = .ok (.iinc 5 1, 3) := by decide +kernel
theorem d_RR_count_109 : decode prog_1_method_30_code 109 = .ok (.goto (-33), 3) := by decide +kernel
theorem d_RR_count_112 : decode prog_1_method_30_code 112 = .ok (.iload_n 2, 1) := by decide +kernel
theorem d_RR_count_113 : decode prog_1_method_30_code 113 = .ok (.ireturn, 1) := by decide +kernel
theorem d_RR_isCounted_0 : decode prog_1_method_41_code 0 = .ok (.iload_n 1, 1) := by decide +kernel
theorem d_RR_isCounted_1 : decode prog_1_method_41_code 1 = .ok (.tableswitch 47 1 3 #[27, 37, 42], 27) := by decide +kernel
theorem d_RR_isCounted_28 : decode prog_1_method_41_code 28 = .ok (.aload_n 0, 1) := by decide +kernel
theorem d_RR_isCounted_29 : decode prog_1_method_41_code 29 = .ok (.ifnull 7, 3) := by decide +kernel
theorem d_RR_isCounted_32 : decode prog_1_method_41_code 32 = .ok (.iconst 1, 1) := by decide +kernel
theorem d_RR_isCounted_33 : decode prog_1_method_41_code 33 = .ok (.goto 4, 3) := by decide +kernel
theorem d_RR_isCounted_36 : decode prog_1_method_41_code 36 = .ok (.iconst 0, 1) := by decide +kernel
theorem d_RR_isCounted_37 : decode prog_1_method_41_code 37 = .ok (.ireturn, 1) := by decide +kernel
theorem d_RR_isCounted_38 : decode prog_1_method_41_code 38 = .ok (.aload_n 0, 1) := by decide +kernel
theorem d_RR_isCounted_39 : decode prog_1_method_41_code 39 = .ok (.instanceof 171, 3) := by decide +kernel
theorem d_RR_isCounted_42 : decode prog_1_method_41_code 42 = .ok (.ireturn, 1) := by decide +kernel
theorem d_RR_isCounted_43 : decode prog_1_method_41_code 43 = .ok (.aload_n 0, 1) := by decide +kernel
theorem d_RR_isCounted_44 : decode prog_1_method_41_code 44 = .ok (.instanceof 137, 3) := by decide +kernel
theorem d_RR_isCounted_47 : decode prog_1_method_41_code 47 = .ok (.ireturn, 1) := by decide +kernel
theorem d_RR_isCounted_48 : decode prog_1_method_41_code 48 = .ok (.aload_n 0, 1) := by decide +kernel
theorem d_RR_isCounted_49 : decode prog_1_method_41_code 49 = .ok (.instanceof 205, 3) := by decide +kernel
theorem d_RR_isCounted_52 : decode prog_1_method_41_code 52 = .ok (.ireturn, 1) := by decide +kernel
theorem d_RR_status_0 : decode prog_1_method_31_code 0 = .ok (.aload_n 0, 1) := by decide +kernel
theorem d_RR_status_1 : decode prog_1_method_31_code 1 = .ok (.getfield 42, 3) := by decide +kernel
theorem d_RR_status_4 : decode prog_1_method_31_code 4 = .ok (.ireturn, 1) := by decide +kernel
theorem d_Mo_init_0 : decode prog_14_method_1_code 0 = .ok (.aload_n 0, 1) := by decide +kernel
theorem d_Mo_init_1 : decode prog_14_method_1_code 1 = .ok (.invokespecial 1, 3) := by decide +kernel
theorem d_Mo_init_4 : decode prog_14_method_1_code 4 = .ok (.aload_n 0, 1) := by decide +kernel
theorem d_Mo_init_5 : decode prog_14_method_1_code 5 = .ok (.bipush 8, 2) := by decide +kernel
theorem d_Mo_init_7 : decode prog_14_method_1_code 7 = .ok (.newarray .int, 2) := by decide +kernel
theorem d_Mo_init_9 : decode prog_14_method_1_code 9 = .ok (.putfield 7, 3) := by decide +kernel
theorem d_Mo_init_12 : decode prog_14_method_1_code 12 = .ok (.aload_n 0, 1) := by decide +kernel
theorem d_Mo_init_13 : decode prog_14_method_1_code 13 = .ok (.bipush 8, 2) := by decide +kernel
theorem d_Mo_init_15 : decode prog_14_method_1_code 15 = .ok (.newarray .int, 2) := by decide +kernel
theorem d_Mo_init_17 : decode prog_14_method_1_code 17 = .ok (.putfield 13, 3) := by decide +kernel
theorem d_Mo_init_20 : decode prog_14_method_1_code 20 = .ok (.aload_n 0, 1) := by decide +kernel
theorem d_Mo_init_21 : decode prog_14_method_1_code 21 = .ok (.sipush 800, 3) := by decide +kernel
theorem d_Mo_init_24 : decode prog_14_method_1_code 24 = .ok (.newarray .int, 2) := by decide +kernel
theorem d_Mo_init_26 : decode prog_14_method_1_code 26 = .ok (.putfield 16, 3) := by decide +kernel
theorem d_Mo_init_29 : decode prog_14_method_1_code 29 = .ok (.aload_n 0, 1) := by decide +kernel
theorem d_Mo_init_30 : decode prog_14_method_1_code 30 = .ok (.bipush 100, 2) := by decide +kernel
theorem d_Mo_init_32 : decode prog_14_method_1_code 32 = .ok (.newarray .int, 2) := by decide +kernel
theorem d_Mo_init_34 : decode prog_14_method_1_code 34 = .ok (.putfield 19, 3) := by decide +kernel
theorem d_Mo_init_37 : decode prog_14_method_1_code 37 = .ok (.aload_n 0, 1) := by decide +kernel
theorem d_Mo_init_38 : decode prog_14_method_1_code 38 = .ok (.bipush 11, 2) := by decide +kernel
theorem d_Mo_init_40 : decode prog_14_method_1_code 40 = .ok (.newarray .int, 2) := by decide +kernel
theorem d_Mo_init_42 : decode prog_14_method_1_code 42 = .ok (.putfield 22, 3) := by decide +kernel
theorem d_Mo_init_45 : decode prog_14_method_1_code 45 = .ok (.aload_n 0, 1) := by decide +kernel
theorem d_Mo_init_46 : decode prog_14_method_1_code 46 = .ok (.bipush 11, 2) := by decide +kernel
theorem d_Mo_init_48 : decode prog_14_method_1_code 48 = .ok (.newarray .int, 2) := by decide +kernel
theorem d_Mo_init_50 : decode prog_14_method_1_code 50 = .ok (.putfield 25, 3) := by decide +kernel
theorem d_Mo_init_53 : decode prog_14_method_1_code 53 = .ok (.aload_n 0, 1) := by decide +kernel
theorem d_Mo_init_54 : decode prog_14_method_1_code 54 = .ok (.sipush 440, 3) := by decide +kernel
theorem d_Mo_init_57 : decode prog_14_method_1_code 57 = .ok (.newarray .int, 2) := by decide +kernel
theorem d_Mo_init_59 : decode prog_14_method_1_code 59 = .ok (.putfield 28, 3) := by decide +kernel
theorem d_Mo_init_62 : decode prog_14_method_1_code 62 = .ok (.aload_n 0, 1) := by decide +kernel
theorem d_Mo_init_63 : decode prog_14_method_1_code 63 = .ok (.sipush 440, 3) := by decide +kernel
theorem d_Mo_init_66 : decode prog_14_method_1_code 66 = .ok (.newarray .int, 2) := by decide +kernel
theorem d_Mo_init_68 : decode prog_14_method_1_code 68 = .ok (.putfield 31, 3) := by decide +kernel
theorem d_Mo_init_71 : decode prog_14_method_1_code 71 = .ok (.aload_n 0, 1) := by decide +kernel
theorem d_Mo_init_72 : decode prog_14_method_1_code 72 = .ok (.sipush 440, 3) := by decide +kernel
theorem d_Mo_init_75 : decode prog_14_method_1_code 75 = .ok (.newarray .int, 2) := by decide +kernel
theorem d_Mo_init_77 : decode prog_14_method_1_code 77 = .ok (.putfield 34, 3) := by decide +kernel
theorem d_Mo_init_80 : decode prog_14_method_1_code 80 = .ok (.aload_n 0, 1) := by decide +kernel
theorem d_Mo_init_81 : decode prog_14_method_1_code 81 = .ok (.sipush 440, 3) := by decide +kernel
theorem d_Mo_init_84 : decode prog_14_method_1_code 84 = .ok (.newarray .int, 2) := by decide +kernel
theorem d_Mo_init_86 : decode prog_14_method_1_code 86 = .ok (.putfield 37, 3) := by decide +kernel
theorem d_Mo_init_89 : decode prog_14_method_1_code 89 = .ok (.aload_n 0, 1) := by decide +kernel
theorem d_Mo_init_90 : decode prog_14_method_1_code 90 = .ok (.bipush 16, 2) := by decide +kernel
theorem d_Mo_init_92 : decode prog_14_method_1_code 92 = .ok (.newarray .int, 2) := by decide +kernel
theorem d_Mo_init_94 : decode prog_14_method_1_code 94 = .ok (.putfield 40, 3) := by decide +kernel
theorem d_Mo_init_97 : decode prog_14_method_1_code 97 = .ok (.aload_n 0, 1) := by decide +kernel
theorem d_Mo_init_98 : decode prog_14_method_1_code 98 = .ok (.bipush 40, 2) := by decide +kernel
theorem d_Mo_init_100 : decode prog_14_method_1_code 100 = .ok (.newarray .int, 2) := by decide +kernel
theorem d_Mo_init_102 : decode prog_14_method_1_code 102 = .ok (.putfield 43, 3) := by decide +kernel
theorem d_Mo_init_105 : decode prog_14_method_1_code 105 = .ok (.aload_n 0, 1) := by decide +kernel
theorem d_Mo_init_106 : decode prog_14_method_1_code 106 = .ok (.bipush 40, 2) := by decide +kernel
theorem d_Mo_init_108 : decode prog_14_method_1_code 108 = .ok (.newarray .int, 2) := by decide +kernel
theorem d_Mo_init_110 : decode prog_14_method_1_code 110 = .ok (.putfield 46, 3) := by decide +kernel
theorem d_Mo_init_113 : decode prog_14_method_1_code 113 = .ok (.aload_n 0, 1) := by decide +kernel
theorem d_Mo_init_114 : decode prog_14_method_1_code 114 = .ok (.bipush 20, 2) := by decide +kernel
theorem d_Mo_init_116 : decode prog_14_method_1_code 116 = .ok (.newarray .int, 2) := by decide +kernel
theorem d_Mo_init_118 : decode prog_14_method_1_code 118 = .ok (.putfield 49, 3) := by decide +kernel
theorem d_Mo_init_121 : decode prog_14_method_1_code 121 = .ok (.aload_n 0, 1) := by decide +kernel
theorem d_Mo_init_122 : decode prog_14_method_1_code 122 = .ok (.bipush 20, 2) := by decide +kernel
theorem d_Mo_init_124 : decode prog_14_method_1_code 124 = .ok (.newarray .boolean, 2) := by decide +kernel
theorem d_Mo_init_126 : decode prog_14_method_1_code 126 = .ok (.putfield 52, 3) := by decide +kernel
theorem d_Mo_init_129 : decode prog_14_method_1_code 129 = .ok (.aload_n 0, 1) := by decide +kernel
theorem d_Mo_init_130 : decode prog_14_method_1_code 130 = .ok (.sipush 650, 3) := by decide +kernel
theorem d_Mo_init_133 : decode prog_14_method_1_code 133 = .ok (.newarray .int, 2) := by decide +kernel
theorem d_Mo_init_135 : decode prog_14_method_1_code 135 = .ok (.putfield 56, 3) := by decide +kernel
theorem d_Mo_init_138 : decode prog_14_method_1_code 138 = .ok (.aload_n 0, 1) := by decide +kernel
theorem d_Mo_init_139 : decode prog_14_method_1_code 139 = .ok (.bipush 14, 2) := by decide +kernel
theorem d_Mo_init_141 : decode prog_14_method_1_code 141 = .ok (.newarray .int, 2) := by decide +kernel
theorem d_Mo_init_143 : decode prog_14_method_1_code 143 = .ok (.putfield 59, 3) := by decide +kernel
theorem d_Mo_init_146 : decode prog_14_method_1_code 146 = .ok (.aload_n 0, 1) := by decide +kernel
theorem d_Mo_init_147 : decode prog_14_method_1_code 147 = .ok (.sipush 6006, 3) := by decide +kernel
theorem d_Mo_init_150 : decode prog_14_method_1_code 150 = .ok (.newarray .int, 2) := by decide +kernel
theorem d_Mo_init_152 : decode prog_14_method_1_code 152 = .ok (.putfield 62, 3) := by decide +kernel
theorem d_Mo_init_155 : decode prog_14_method_1_code 155 = .ok (.aload_n 0, 1) := by decide +kernel
theorem d_Mo_init_156 : decode prog_14_method_1_code 156 = .ok (.bipush 64, 2) := by decide +kernel
theorem d_Mo_init_158 : decode prog_14_method_1_code 158 = .ok (.newarray .int, 2) := by decide +kernel
theorem d_Mo_init_160 : decode prog_14_method_1_code 160 = .ok (.putfield 65, 3) := by decide +kernel
theorem d_Mo_init_163 : decode prog_14_method_1_code 163 = .ok (.aload_n 0, 1) := by decide +kernel
theorem d_Mo_init_164 : decode prog_14_method_1_code 164 = .ok (.bipush 8, 2) := by decide +kernel
theorem d_Mo_init_166 : decode prog_14_method_1_code 166 = .ok (.newarray .boolean, 2) := by decide +kernel
theorem d_Mo_init_168 : decode prog_14_method_1_code 168 = .ok (.putfield 68, 3) := by decide +kernel
theorem d_Mo_init_171 : decode prog_14_method_1_code 171 = .ok (.aload_n 0, 1) := by decide +kernel
theorem d_Mo_init_172 : decode prog_14_method_1_code 172 = .ok (.bipush 6, 2) := by decide +kernel
theorem d_Mo_init_174 : decode prog_14_method_1_code 174 = .ok (.newarray .int, 2) := by decide +kernel
theorem d_Mo_init_176 : decode prog_14_method_1_code 176 = .ok (.putfield 71, 3) := by decide +kernel
theorem d_Mo_init_179 : decode prog_14_method_1_code 179 = .ok (.aload_n 0, 1) := by decide +kernel
theorem d_Mo_init_180 : decode prog_14_method_1_code 180 = .ok (.bipush 9, 2) := by decide +kernel
theorem d_Mo_init_182 : decode prog_14_method_1_code 182 = .ok (.newarray .int, 2) := by decide +kernel
theorem d_Mo_init_184 : decode prog_14_method_1_code 184 = .ok (.putfield 74, 3) := by decide +kernel
theorem d_Mo_init_187 : decode prog_14_method_1_code 187 = .ok (.aload_n 0, 1) := by decide +kernel
theorem d_Mo_init_188 : decode prog_14_method_1_code 188 = .ok (.bipush 14, 2) := by decide +kernel
theorem d_Mo_init_190 : decode prog_14_method_1_code 190 = .ok (.newarray .int, 2) := by decide +kernel
theorem d_Mo_init_192 : decode prog_14_method_1_code 192 = .ok (.putfield 77, 3) := by decide +kernel
theorem d_Mo_init_195 : decode prog_14_method_1_code 195 = .ok (.aload_n 0, 1) := by decide +kernel
theorem d_Mo_init_196 : decode prog_14_method_1_code 196 = .ok (.sipush 1764, 3) := by decide +kernel
theorem d_Mo_init_199 : decode prog_14_method_1_code 199 = .ok (.newarray .boolean, 2) := by decide +kernel
theorem d_Mo_init_201 : decode prog_14_method_1_code 201 = .ok (.putfield 80, 3) := by decide +kernel
theorem d_Mo_init_204 : decode prog_14_method_1_code 204 = .ok (.aload_n 0, 1) := by decide +kernel
theorem d_Mo_init_205 : decode prog_14_method_1_code 205 = .ok (.bipush 42, 2) := by decide +kernel
theorem d_Mo_init_207 : decode prog_14_method_1_code 207 = .ok (.newarray .int, 2) := by decide +kernel
theorem d_Mo_init_209 : decode prog_14_method_1_code 209 = .ok (.putfield 83, 3) := by decide +kernel
theorem d_Mo_init_212 : decode prog_14_method_1_code 212 = .ok (.aload_n 0, 1) := by decide +kernel
theorem d_Mo_init_213 : decode prog_14_method_1_code 213 = .ok (.bipush 42, 2) := by decide +kernel
theorem d_Mo_init_215 : decode prog_14_method_1_code 215 = .ok (.newarray .int, 2) := by decide +kernel
theorem d_Mo_init_217 : decode prog_14_method_1_code 217 = .ok (.putfield 86, 3) := by decide +kernel
theorem d_Mo_init_220 : decode prog_14_method_1_code 220 = .ok (.aload_n 0, 1) := by decide +kernel
theorem d_Mo_init_221 : decode prog_14_method_1_code 221 = .ok (.sipush 1764, 3) := by decide +kernel
theorem d_Mo_init_224 : decode prog_14_method_1_code 224 = .ok (.newarray .int, 2) := by decide +kernel
theorem d_Mo_init_226 : decode prog_14_method_1_code 226 = .ok (.putfield 89, 3) := by decide +kernel
theorem d_Mo_init_229 : decode prog_14_method_1_code 229 = .ok (.aload_n 0, 1) := by decide +kernel
theorem d_Mo_init_230 : decode prog_14_method_1_code 230 = .ok (.bipush 8, 2) := by decide +kernel
theorem d_Mo_init_232 : decode prog_14_method_1_code 232 = .ok (.newarray .int, 2) := by decide +kernel
theorem d_Mo_init_234 : decode prog_14_method_1_code 234 = .ok (.putfield 92, 3) := by decide +kernel
theorem d_Mo_init_237 : decode prog_14_method_1_code 237 = .ok (.return_, 1) := by decide +kernel
theorem d_Mo_sheet_0 : decode prog_14_method_6_code 0 = .ok (.iload_n 1, 1) := by decide +kernel
theorem d_Mo_sheet_1 : decode prog_14_method_6_code 1 = .ok (.invokestatic 106, 3) := by decide +kernel
theorem d_Mo_sheet_4 : decode prog_14_method_6_code 4 = .ok (.ifCond .eq 21, 3) := by decide +kernel
theorem d_Mo_sheet_7 : decode prog_14_method_6_code 7 = .ok (.iload_n 2, 1) := by decide +kernel
theorem d_Mo_sheet_8 : decode prog_14_method_6_code 8 = .ok (.i2l, 1) := by decide +kernel
theorem d_Mo_sheet_9 : decode prog_14_method_6_code 9 = .ok (.lconst 0, 1) := by decide +kernel
theorem d_Mo_sheet_10 : decode prog_14_method_6_code 10 = .ok (.ldc2_w 110, 3) := by decide +kernel
theorem d_Mo_sheet_13 : decode prog_14_method_6_code 13 = .ok (.invokestatic 102, 3) := by decide +kernel
theorem d_Mo_sheet_16 : decode prog_14_method_6_code 16 = .ok (.ifCond .eq 9, 3) := by decide +kernel
theorem d_Mo_sheet_19 : decode prog_14_method_6_code 19 = .ok (.iload_n 3, 1) := by decide +kernel
theorem d_Mo_sheet_20 : decode prog_14_method_6_code 20 = .ok (.bipush 100, 2) := by decide +kernel
theorem d_Mo_sheet_22 : decode prog_14_method_6_code 22 = .ok (.if_icmp .le 6, 3) := by decide +kernel
theorem d_Mo_sheet_25 : decode prog_14_method_6_code 25 = .ok (.ldc 112, 2) := by decide +kernel
theorem d_Mo_sheet_27 : decode prog_14_method_6_code 27 = .ok (.ireturn, 1) := by decide +kernel
theorem d_Mo_sheet_28 : decode prog_14_method_6_code 28 = .ok (.iload_n 3, 1) := by decide +kernel
theorem d_Mo_sheet_29 : decode prog_14_method_6_code 29 = .ok (.ifCond .ge 9, 3) := by decide +kernel
theorem d_Mo_sheet_32 : decode prog_14_method_6_code 32 = .ok (.aload_n 0, 1) := by decide +kernel
theorem d_Mo_sheet_33 : decode prog_14_method_6_code 33 = .ok (.iconst 4, 1) := by decide +kernel
theorem d_Mo_sheet_34 : decode prog_14_method_6_code 34 = .ok (.invokevirtual 113, 3) := by decide +kernel
theorem d_Mo_sheet_37 : decode prog_14_method_6_code 37 = .ok (.ireturn, 1) := by decide +kernel
theorem d_Mo_sheet_38 : decode prog_14_method_6_code 38 = .ok (.aload_n 0, 1) := by decide +kernel
theorem d_Mo_sheet_39 : decode prog_14_method_6_code 39 = .ok (.getfield 7, 3) := by decide +kernel
theorem d_Mo_sheet_42 : decode prog_14_method_6_code 42 = .ok (.iload_n 1, 1) := by decide +kernel
theorem d_Mo_sheet_43 : decode prog_14_method_6_code 43 = .ok (.iload_n 2, 1) := by decide +kernel
theorem d_Mo_sheet_44 : decode prog_14_method_6_code 44 = .ok (.iconst 1, 1) := by decide +kernel
theorem d_Mo_sheet_45 : decode prog_14_method_6_code 45 = .ok (.iadd, 1) := by decide +kernel
theorem d_Mo_sheet_46 : decode prog_14_method_6_code 46 = .ok (.iastore, 1) := by decide +kernel
theorem d_Mo_sheet_47 : decode prog_14_method_6_code 47 = .ok (.aload_n 0, 1) := by decide +kernel
theorem d_Mo_sheet_48 : decode prog_14_method_6_code 48 = .ok (.getfield 13, 3) := by decide +kernel
theorem d_Mo_sheet_51 : decode prog_14_method_6_code 51 = .ok (.iload_n 1, 1) := by decide +kernel
theorem d_Mo_sheet_52 : decode prog_14_method_6_code 52 = .ok (.iload_n 3, 1) := by decide +kernel
theorem d_Mo_sheet_53 : decode prog_14_method_6_code 53 = .ok (.iastore, 1) := by decide +kernel
theorem d_Mo_sheet_54 : decode prog_14_method_6_code 54 = .ok (.iconst 0, 1) := by decide +kernel
theorem d_Mo_sheet_55 : decode prog_14_method_6_code 55 = .ok (.istore 4, 2) := by decide +kernel
theorem d_Mo_sheet_57 : decode prog_14_method_6_code 57 = .ok (.iload 4, 2) := by decide +kernel
theorem d_Mo_sheet_59 : decode prog_14_method_6_code 59 = .ok (.iload_n 3, 1) := by decide +kernel
theorem d_Mo_sheet_60 : decode prog_14_method_6_code 60 = .ok (.if_icmp .ge 22, 3) := by decide +kernel
theorem d_Mo_sheet_63 : decode prog_14_method_6_code 63 = .ok (.aload_n 0, 1) := by decide +kernel
theorem d_Mo_sheet_64 : decode prog_14_method_6_code 64 = .ok (.getfield 16, 3) := by decide +kernel
theorem d_Mo_sheet_67 : decode prog_14_method_6_code 67 = .ok (.bipush 100, 2) := by decide +kernel
theorem d_Mo_sheet_69 : decode prog_14_method_6_code 69 = .ok (.iload_n 1, 1) := by decide +kernel
theorem d_Mo_sheet_70 : decode prog_14_method_6_code 70 = .ok (.imul, 1) := by decide +kernel
theorem d_Mo_sheet_71 : decode prog_14_method_6_code 71 = .ok (.iload 4, 2) := by decide +kernel
theorem d_Mo_sheet_73 : decode prog_14_method_6_code 73 = .ok (.iadd, 1) := by decide +kernel
theorem d_Mo_sheet_74 : decode prog_14_method_6_code 74 = .ok (.iconst 0, 1) := by decide +kernel
theorem d_Mo_sheet_75 : decode prog_14_method_6_code 75 = .ok (.iastore, 1) := by decide +kernel
theorem d_Mo_sheet_76 : decode prog_14_method_6_code 76 = .ok (.iinc 4 1, 3) := by decide +kernel
theorem d_Mo_sheet_79 : decode prog_14_method_6_code 79 = .ok (.goto (-22), 3) := by decide +kernel
theorem d_Mo_sheet_82 : decode prog_14_method_6_code 82 = .ok (.aload_n 0, 1) := by decide +kernel
theorem d_Mo_sheet_83 : decode prog_14_method_6_code 83 = .ok (.iload_n 3, 1) := by decide +kernel
theorem d_Mo_sheet_84 : decode prog_14_method_6_code 84 = .ok (.invokevirtual 117, 3) := by decide +kernel
theorem d_Mo_sheet_87 : decode prog_14_method_6_code 87 = .ok (.ireturn, 1) := by decide +kernel
theorem d_Mo_isSheet_0 : decode prog_14_method_5_code 0 = .ok (.iload_n 0, 1) := by decide +kernel
theorem d_Mo_isSheet_1 : decode prog_14_method_5_code 1 = .ok (.i2l, 1) := by decide +kernel
theorem d_Mo_isSheet_2 : decode prog_14_method_5_code 2 = .ok (.lconst 0, 1) := by decide +kernel
theorem d_Mo_isSheet_3 : decode prog_14_method_5_code 3 = .ok (.ldc2_w 100, 3) := by decide +kernel
theorem d_Mo_isSheet_6 : decode prog_14_method_5_code 6 = .ok (.invokestatic 102, 3) := by decide +kernel
theorem d_Mo_isSheet_9 : decode prog_14_method_5_code 9 = .ok (.ireturn, 1) := by decide +kernel
theorem d_Mo_in_0 : decode prog_14_method_2_code 0 = .ok (.lload_n 0, 1) := by decide +kernel
theorem d_Mo_in_1 : decode prog_14_method_2_code 1 = .ok (.lload_n 2, 1) := by decide +kernel
theorem d_Mo_in_2 : decode prog_14_method_2_code 2 = .ok (.lcmp, 1) := by decide +kernel
theorem d_Mo_in_3 : decode prog_14_method_2_code 3 = .ok (.ifCond .lt 14, 3) := by decide +kernel
theorem d_Mo_in_6 : decode prog_14_method_2_code 6 = .ok (.lload_n 0, 1) := by decide +kernel
theorem d_Mo_in_7 : decode prog_14_method_2_code 7 = .ok (.lload 4, 2) := by decide +kernel
theorem d_Mo_in_9 : decode prog_14_method_2_code 9 = .ok (.lcmp, 1) := by decide +kernel
theorem d_Mo_in_10 : decode prog_14_method_2_code 10 = .ok (.ifCond .gt 7, 3) := by decide +kernel
theorem d_Mo_in_13 : decode prog_14_method_2_code 13 = .ok (.iconst 1, 1) := by decide +kernel
theorem d_Mo_in_14 : decode prog_14_method_2_code 14 = .ok (.goto 4, 3) := by decide +kernel
theorem d_Mo_in_17 : decode prog_14_method_2_code 17 = .ok (.iconst 0, 1) := by decide +kernel
theorem d_Mo_in_18 : decode prog_14_method_2_code 18 = .ok (.ireturn, 1) := by decide +kernel
theorem d_Mo_finds_0 : decode prog_14_method_3_code 0 = .ok (.aload_n 0, 1) := by decide +kernel
theorem d_Mo_finds_1 : decode prog_14_method_3_code 1 = .ok (.iload_n 1, 1) := by decide +kernel
theorem d_Mo_finds_2 : decode prog_14_method_3_code 2 = .ok (.putfield 95, 3) := by decide +kernel
theorem d_Mo_finds_5 : decode prog_14_method_3_code 5 = .ok (.ldc 99, 2) := by decide +kernel
theorem d_Mo_finds_7 : decode prog_14_method_3_code 7 = .ok (.iload_n 1, 1) := by decide +kernel
theorem d_Mo_finds_8 : decode prog_14_method_3_code 8 = .ok (.isub, 1) := by decide +kernel
theorem d_Mo_finds_9 : decode prog_14_method_3_code 9 = .ok (.ireturn, 1) := by decide +kernel
theorem d_Mo_well_0 : decode prog_14_method_4_code 0 = .ok (.aload_n 0, 1) := by decide +kernel
theorem d_Mo_well_1 : decode prog_14_method_4_code 1 = .ok (.iconst 0, 1) := by decide +kernel
theorem d_Mo_well_2 : decode prog_14_method_4_code 2 = .ok (.putfield 95, 3) := by decide +kernel
theorem d_Mo_well_5 : decode prog_14_method_4_code 5 = .ok (.iload_n 1, 1) := by decide +kernel
theorem d_Mo_well_6 : decode prog_14_method_4_code 6 = .ok (.ireturn, 1) := by decide +kernel
theorem d_Mo_set_0 : decode prog_14_method_7_code 0 = .ok (.iload_n 1, 1) := by decide +kernel
theorem d_Mo_set_1 : decode prog_14_method_7_code 1 = .ok (.invokestatic 106, 3) := by decide +kernel
theorem d_Mo_set_4 : decode prog_14_method_7_code 4 = .ok (.ifCond .ne 6, 3) := by decide +kernel
theorem d_Mo_set_7 : decode prog_14_method_7_code 7 = .ok (.ldc 112, 2) := by decide +kernel
theorem d_Mo_set_9 : decode prog_14_method_7_code 9 = .ok (.ireturn, 1) := by decide +kernel
theorem d_Mo_set_10 : decode prog_14_method_7_code 10 = .ok (.aload_n 0, 1) := by decide +kernel
theorem d_Mo_set_11 : decode prog_14_method_7_code 11 = .ok (.getfield 7, 3) := by decide +kernel
theorem d_Mo_set_14 : decode prog_14_method_7_code 14 = .ok (.iload_n 1, 1) := by decide +kernel
theorem d_Mo_set_15 : decode prog_14_method_7_code 15 = .ok (.iaload, 1) := by decide +kernel
theorem d_Mo_set_16 : decode prog_14_method_7_code 16 = .ok (.ifCond .ne 9, 3) := by decide +kernel
theorem d_Mo_set_19 : decode prog_14_method_7_code 19 = .ok (.aload_n 0, 1) := by decide +kernel
theorem d_Mo_set_20 : decode prog_14_method_7_code 20 = .ok (.iconst 1, 1) := by decide +kernel
theorem d_Mo_set_21 : decode prog_14_method_7_code 21 = .ok (.invokevirtual 113, 3) := by decide +kernel
theorem d_Mo_set_24 : decode prog_14_method_7_code 24 = .ok (.ireturn, 1) := by decide +kernel
theorem d_Mo_set_25 : decode prog_14_method_7_code 25 = .ok (.iload_n 2, 1) := by decide +kernel
theorem d_Mo_set_26 : decode prog_14_method_7_code 26 = .ok (.i2l, 1) := by decide +kernel
theorem d_Mo_set_27 : decode prog_14_method_7_code 27 = .ok (.lconst 0, 1) := by decide +kernel
theorem d_Mo_set_28 : decode prog_14_method_7_code 28 = .ok (.aload_n 0, 1) := by decide +kernel
theorem d_Mo_set_29 : decode prog_14_method_7_code 29 = .ok (.getfield 13, 3) := by decide +kernel
theorem d_Mo_set_32 : decode prog_14_method_7_code 32 = .ok (.iload_n 1, 1) := by decide +kernel
theorem d_Mo_set_33 : decode prog_14_method_7_code 33 = .ok (.iaload, 1) := by decide +kernel
theorem d_Mo_set_34 : decode prog_14_method_7_code 34 = .ok (.iconst 1, 1) := by decide +kernel
theorem d_Mo_set_35 : decode prog_14_method_7_code 35 = .ok (.isub, 1) := by decide +kernel
theorem d_Mo_set_36 : decode prog_14_method_7_code 36 = .ok (.i2l, 1) := by decide +kernel
theorem d_Mo_set_37 : decode prog_14_method_7_code 37 = .ok (.invokestatic 102, 3) := by decide +kernel
theorem d_Mo_set_40 : decode prog_14_method_7_code 40 = .ok (.ifCond .ne 9, 3) := by decide +kernel
theorem d_Mo_set_43 : decode prog_14_method_7_code 43 = .ok (.aload_n 0, 1) := by decide +kernel
theorem d_Mo_set_44 : decode prog_14_method_7_code 44 = .ok (.iconst 2, 1) := by decide +kernel
theorem d_Mo_set_45 : decode prog_14_method_7_code 45 = .ok (.invokevirtual 113, 3) := by decide +kernel
theorem d_Mo_set_48 : decode prog_14_method_7_code 48 = .ok (.ireturn, 1) := by decide +kernel
theorem d_Mo_set_49 : decode prog_14_method_7_code 49 = .ok (.aload_n 0, 1) := by decide +kernel
theorem d_Mo_set_50 : decode prog_14_method_7_code 50 = .ok (.getfield 7, 3) := by decide +kernel
theorem d_Mo_set_53 : decode prog_14_method_7_code 53 = .ok (.iload_n 1, 1) := by decide +kernel
theorem d_Mo_set_54 : decode prog_14_method_7_code 54 = .ok (.iaload, 1) := by decide +kernel
theorem d_Mo_set_55 : decode prog_14_method_7_code 55 = .ok (.iconst 1, 1) := by decide +kernel
theorem d_Mo_set_56 : decode prog_14_method_7_code 56 = .ok (.if_icmp .ne 8, 3) := by decide +kernel
theorem d_Mo_set_59 : decode prog_14_method_7_code 59 = .ok (.iload_n 3, 1) := by decide +kernel
theorem d_Mo_set_60 : decode prog_14_method_7_code 60 = .ok (.i2b, 1) := by decide +kernel
theorem d_Mo_set_61 : decode prog_14_method_7_code 61 = .ok (.goto 19, 3) := by decide +kernel
theorem d_Mo_set_64 : decode prog_14_method_7_code 64 = .ok (.aload_n 0, 1) := by decide +kernel
theorem d_Mo_set_65 : decode prog_14_method_7_code 65 = .ok (.getfield 7, 3) := by decide +kernel
theorem d_Mo_set_68 : decode prog_14_method_7_code 68 = .ok (.iload_n 1, 1) := by decide +kernel
theorem d_Mo_set_69 : decode prog_14_method_7_code 69 = .ok (.iaload, 1) := by decide +kernel
theorem d_Mo_set_70 : decode prog_14_method_7_code 70 = .ok (.iconst 2, 1) := by decide +kernel
theorem d_Mo_set_71 : decode prog_14_method_7_code 71 = .ok (.if_icmp .ne 8, 3) := by decide +kernel
theorem d_Mo_set_74 : decode prog_14_method_7_code 74 = .ok (.iload_n 3, 1) := by decide +kernel
theorem d_Mo_set_75 : decode prog_14_method_7_code 75 = .ok (.i2s, 1) := by decide +kernel
theorem d_Mo_set_76 : decode prog_14_method_7_code 76 = .ok (.goto 4, 3) := by decide +kernel
theorem d_Mo_set_79 : decode prog_14_method_7_code 79 = .ok (.iload_n 3, 1) := by decide +kernel
theorem d_Mo_set_80 : decode prog_14_method_7_code 80 = .ok (.istore 4, 2) := by decide +kernel
theorem d_Mo_set_82 : decode prog_14_method_7_code 82 = .ok (.aload_n 0, 1) := by decide +kernel
theorem d_Mo_set_83 : decode prog_14_method_7_code 83 = .ok (.getfield 16, 3) := by decide +kernel
theorem d_Mo_set_86 : decode prog_14_method_7_code 86 = .ok (.bipush 100, 2) := by decide +kernel
theorem d_Mo_set_88 : decode prog_14_method_7_code 88 = .ok (.iload_n 1, 1) := by decide +kernel
theorem d_Mo_set_89 : decode prog_14_method_7_code 89 = .ok (.imul, 1) := by decide +kernel
theorem d_Mo_set_90 : decode prog_14_method_7_code 90 = .ok (.iload_n 2, 1) := by decide +kernel
theorem d_Mo_set_91 : decode prog_14_method_7_code 91 = .ok (.iadd, 1) := by decide +kernel
theorem d_Mo_set_92 : decode prog_14_method_7_code 92 = .ok (.iload 4, 2) := by decide +kernel
theorem d_Mo_set_94 : decode prog_14_method_7_code 94 = .ok (.iastore, 1) := by decide +kernel
theorem d_Mo_set_95 : decode prog_14_method_7_code 95 = .ok (.aload_n 0, 1) := by decide +kernel
theorem d_Mo_set_96 : decode prog_14_method_7_code 96 = .ok (.iload 4, 2) := by decide +kernel
theorem d_Mo_set_98 : decode prog_14_method_7_code 98 = .ok (.invokevirtual 117, 3) := by decide +kernel
theorem d_Mo_set_101 : decode prog_14_method_7_code 101 = .ok (.ireturn, 1) := by decide +kernel
theorem d_Mo_copy_0 : decode prog_14_method_8_code 0 = .ok (.iload_n 1, 1) := by decide +kernel
theorem d_Mo_copy_1 : decode prog_14_method_8_code 1 = .ok (.invokestatic 106, 3) := by decide +kernel
theorem d_Mo_copy_4 : decode prog_14_method_8_code 4 = .ok (.ifCond .eq 10, 3) := by decide +kernel
theorem d_Mo_copy_7 : decode prog_14_method_8_code 7 = .ok (.iload_n 3, 1) := by decide +kernel
theorem d_Mo_copy_8 : decode prog_14_method_8_code 8 = .ok (.invokestatic 106, 3) := by decide +kernel
theorem d_Mo_copy_11 : decode prog_14_method_8_code 11 = .ok (.ifCond .ne 6, 3) := by decide +kernel
theorem d_Mo_copy_14 : decode prog_14_method_8_code 14 = .ok (.ldc 112, 2) := by decide +kernel
theorem d_Mo_copy_16 : decode prog_14_method_8_code 16 = .ok (.ireturn, 1) := by decide +kernel
theorem d_Mo_copy_17 : decode prog_14_method_8_code 17 = .ok (.aload_n 0, 1) := by decide +kernel
theorem d_Mo_copy_18 : decode prog_14_method_8_code 18 = .ok (.getfield 7, 3) := by decide +kernel
theorem d_Mo_copy_21 : decode prog_14_method_8_code 21 = .ok (.iload_n 1, 1) := by decide +kernel
theorem d_Mo_copy_22 : decode prog_14_method_8_code 22 = .ok (.iaload, 1) := by decide +kernel
theorem d_Mo_copy_23 : decode prog_14_method_8_code 23 = .ok (.ifCond .eq 12, 3) := by decide +kernel
theorem d_Mo_copy_26 : decode prog_14_method_8_code 26 = .ok (.aload_n 0, 1) := by decide +kernel
theorem d_Mo_copy_27 : decode prog_14_method_8_code 27 = .ok (.getfield 7, 3) := by decide +kernel
theorem d_Mo_copy_30 : decode prog_14_method_8_code 30 = .ok (.iload_n 3, 1) := by decide +kernel
theorem d_Mo_copy_31 : decode prog_14_method_8_code 31 = .ok (.iaload, 1) := by decide +kernel
theorem d_Mo_copy_32 : decode prog_14_method_8_code 32 = .ok (.ifCond .ne 9, 3) := by decide +kernel
theorem d_Mo_copy_35 : decode prog_14_method_8_code 35 = .ok (.aload_n 0, 1) := by decide +kernel
theorem d_Mo_copy_36 : decode prog_14_method_8_code 36 = .ok (.iconst 1, 1) := by decide +kernel
theorem d_Mo_copy_37 : decode prog_14_method_8_code 37 = .ok (.invokevirtual 113, 3) := by decide +kernel
theorem d_Mo_copy_40 : decode prog_14_method_8_code 40 = .ok (.ireturn, 1) := by decide +kernel
theorem d_Mo_copy_41 : decode prog_14_method_8_code 41 = .ok (.aload_n 0, 1) := by decide +kernel
theorem d_Mo_copy_42 : decode prog_14_method_8_code 42 = .ok (.getfield 7, 3) := by decide +kernel
theorem d_Mo_copy_45 : decode prog_14_method_8_code 45 = .ok (.iload_n 1, 1) := by decide +kernel
theorem d_Mo_copy_46 : decode prog_14_method_8_code 46 = .ok (.iaload, 1) := by decide +kernel
theorem d_Mo_copy_47 : decode prog_14_method_8_code 47 = .ok (.aload_n 0, 1) := by decide +kernel
theorem d_Mo_copy_48 : decode prog_14_method_8_code 48 = .ok (.getfield 7, 3) := by decide +kernel
theorem d_Mo_copy_51 : decode prog_14_method_8_code 51 = .ok (.iload_n 3, 1) := by decide +kernel
theorem d_Mo_copy_52 : decode prog_14_method_8_code 52 = .ok (.iaload, 1) := by decide +kernel
theorem d_Mo_copy_53 : decode prog_14_method_8_code 53 = .ok (.if_icmp .eq 9, 3) := by decide +kernel
theorem d_Mo_copy_56 : decode prog_14_method_8_code 56 = .ok (.aload_n 0, 1) := by decide +kernel
theorem d_Mo_copy_57 : decode prog_14_method_8_code 57 = .ok (.iconst 5, 1) := by decide +kernel
theorem d_Mo_copy_58 : decode prog_14_method_8_code 58 = .ok (.invokevirtual 113, 3) := by decide +kernel
theorem d_Mo_copy_61 : decode prog_14_method_8_code 61 = .ok (.ireturn, 1) := by decide +kernel
theorem d_Mo_copy_62 : decode prog_14_method_8_code 62 = .ok (.iload_n 2, 1) := by decide +kernel
theorem d_Mo_copy_63 : decode prog_14_method_8_code 63 = .ok (.ifCond .lt 48, 3) := by decide +kernel
theorem d_Mo_copy_66 : decode prog_14_method_8_code 66 = .ok (.iload 4, 2) := by decide +kernel
theorem d_Mo_copy_68 : decode prog_14_method_8_code 68 = .ok (.ifCond .lt 43, 3) := by decide +kernel
theorem d_Mo_copy_71 : decode prog_14_method_8_code 71 = .ok (.iload 5, 2) := by decide +kernel
theorem d_Mo_copy_73 : decode prog_14_method_8_code 73 = .ok (.ifCond .lt 38, 3) := by decide +kernel
theorem d_Mo_copy_76 : decode prog_14_method_8_code 76 = .ok (.iload_n 2, 1) := by decide +kernel
theorem d_Mo_copy_77 : decode prog_14_method_8_code 77 = .ok (.i2l, 1) := by decide +kernel
theorem d_Mo_copy_78 : decode prog_14_method_8_code 78 = .ok (.iload 5, 2) := by decide +kernel
theorem d_Mo_copy_80 : decode prog_14_method_8_code 80 = .ok (.i2l, 1) := by decide +kernel
theorem d_Mo_copy_81 : decode prog_14_method_8_code 81 = .ok (.ladd, 1) := by decide +kernel
theorem d_Mo_copy_82 : decode prog_14_method_8_code 82 = .ok (.aload_n 0, 1) := by decide +kernel
theorem d_Mo_copy_83 : decode prog_14_method_8_code 83 = .ok (.getfield 13, 3) := by decide +kernel
theorem d_Mo_copy_86 : decode prog_14_method_8_code 86 = .ok (.iload_n 1, 1) := by decide +kernel
theorem d_Mo_copy_87 : decode prog_14_method_8_code 87 = .ok (.iaload, 1) := by decide +kernel
theorem d_Mo_copy_88 : decode prog_14_method_8_code 88 = .ok (.i2l, 1) := by decide +kernel
theorem d_Mo_copy_89 : decode prog_14_method_8_code 89 = .ok (.lcmp, 1) := by decide +kernel
theorem d_Mo_copy_90 : decode prog_14_method_8_code 90 = .ok (.ifCond .gt 21, 3) := by decide +kernel
theorem d_Mo_copy_93 : decode prog_14_method_8_code 93 = .ok (.iload 4, 2) := by decide +kernel
theorem d_Mo_copy_95 : decode prog_14_method_8_code 95 = .ok (.i2l, 1) := by decide +kernel
theorem d_Mo_copy_96 : decode prog_14_method_8_code 96 = .ok (.iload 5, 2) := by decide +kernel
theorem d_Mo_copy_98 : decode prog_14_method_8_code 98 = .ok (.i2l, 1) := by decide +kernel
theorem d_Mo_copy_99 : decode prog_14_method_8_code 99 = .ok (.ladd, 1) := by decide +kernel
theorem d_Mo_copy_100 : decode prog_14_method_8_code 100 = .ok (.aload_n 0, 1) := by decide +kernel
theorem d_Mo_copy_101 : decode prog_14_method_8_code 101 = .ok (.getfield 13, 3) := by decide +kernel
theorem d_Mo_copy_104 : decode prog_14_method_8_code 104 = .ok (.iload_n 3, 1) := by decide +kernel
theorem d_Mo_copy_105 : decode prog_14_method_8_code 105 = .ok (.iaload, 1) := by decide +kernel
theorem d_Mo_copy_106 : decode prog_14_method_8_code 106 = .ok (.i2l, 1) := by decide +kernel
theorem d_Mo_copy_107 : decode prog_14_method_8_code 107 = .ok (.lcmp, 1) := by decide +kernel
theorem d_Mo_copy_108 : decode prog_14_method_8_code 108 = .ok (.ifCond .le 9, 3) := by decide +kernel
theorem d_Mo_copy_111 : decode prog_14_method_8_code 111 = .ok (.aload_n 0, 1) := by decide +kernel
theorem d_Mo_copy_112 : decode prog_14_method_8_code 112 = .ok (.iconst 2, 1) := by decide +kernel
theorem d_Mo_copy_113 : decode prog_14_method_8_code 113 = .ok (.invokevirtual 113, 3) := by decide +kernel
theorem d_Mo_copy_116 : decode prog_14_method_8_code 116 = .ok (.ireturn, 1) := by decide +kernel
theorem d_Mo_copy_117 : decode prog_14_method_8_code 117 = .ok (.iconst 0, 1) := by decide +kernel
theorem d_Mo_copy_118 : decode prog_14_method_8_code 118 = .ok (.istore 6, 2) := by decide +kernel
theorem d_Mo_copy_120 : decode prog_14_method_8_code 120 = .ok (.iload 6, 2) := by decide +kernel
theorem d_Mo_copy_122 : decode prog_14_method_8_code 122 = .ok (.iload 5, 2) := by decide +kernel
theorem d_Mo_copy_124 : decode prog_14_method_8_code 124 = .ok (.if_icmp .ge 30, 3) := by decide +kernel
theorem d_Mo_copy_127 : decode prog_14_method_8_code 127 = .ok (.aload_n 0, 1) := by decide +kernel
theorem d_Mo_copy_128 : decode prog_14_method_8_code 128 = .ok (.getfield 19, 3) := by decide +kernel
theorem d_Mo_copy_131 : decode prog_14_method_8_code 131 = .ok (.iload 6, 2) := by decide +kernel
theorem d_Mo_copy_133 : decode prog_14_method_8_code 133 = .ok (.aload_n 0, 1) := by decide +kernel
theorem d_Mo_copy_134 : decode prog_14_method_8_code 134 = .ok (.getfield 16, 3) := by decide +kernel
theorem d_Mo_copy_137 : decode prog_14_method_8_code 137 = .ok (.bipush 100, 2) := by decide +kernel
theorem d_Mo_copy_139 : decode prog_14_method_8_code 139 = .ok (.iload_n 1, 1) := by decide +kernel
theorem d_Mo_copy_140 : decode prog_14_method_8_code 140 = .ok (.imul, 1) := by decide +kernel
theorem d_Mo_copy_141 : decode prog_14_method_8_code 141 = .ok (.iload_n 2, 1) := by decide +kernel
theorem d_Mo_copy_142 : decode prog_14_method_8_code 142 = .ok (.iadd, 1) := by decide +kernel
theorem d_Mo_copy_143 : decode prog_14_method_8_code 143 = .ok (.iload 6, 2) := by decide +kernel
theorem d_Mo_copy_145 : decode prog_14_method_8_code 145 = .ok (.iadd, 1) := by decide +kernel
theorem d_Mo_copy_146 : decode prog_14_method_8_code 146 = .ok (.iaload, 1) := by decide +kernel
theorem d_Mo_copy_147 : decode prog_14_method_8_code 147 = .ok (.iastore, 1) := by decide +kernel
theorem d_Mo_copy_148 : decode prog_14_method_8_code 148 = .ok (.iinc 6 1, 3) := by decide +kernel
theorem d_Mo_copy_151 : decode prog_14_method_8_code 151 = .ok (.goto (-31), 3) := by decide +kernel
theorem d_Mo_copy_154 : decode prog_14_method_8_code 154 = .ok (.iconst 0, 1) := by decide +kernel
theorem d_Mo_copy_155 : decode prog_14_method_8_code 155 = .ok (.istore 6, 2) := by decide +kernel
theorem d_Mo_copy_157 : decode prog_14_method_8_code 157 = .ok (.iload 6, 2) := by decide +kernel
theorem d_Mo_copy_159 : decode prog_14_method_8_code 159 = .ok (.iload 5, 2) := by decide +kernel
theorem d_Mo_copy_161 : decode prog_14_method_8_code 161 = .ok (.if_icmp .ge 31, 3) := by decide +kernel
theorem d_Mo_copy_164 : decode prog_14_method_8_code 164 = .ok (.aload_n 0, 1) := by decide +kernel
theorem d_Mo_copy_165 : decode prog_14_method_8_code 165 = .ok (.getfield 16, 3) := by decide +kernel
theorem d_Mo_copy_168 : decode prog_14_method_8_code 168 = .ok (.bipush 100, 2) := by decide +kernel
theorem d_Mo_copy_170 : decode prog_14_method_8_code 170 = .ok (.iload_n 3, 1) := by decide +kernel
theorem d_Mo_copy_171 : decode prog_14_method_8_code 171 = .ok (.imul, 1) := by decide +kernel
theorem d_Mo_copy_172 : decode prog_14_method_8_code 172 = .ok (.iload 4, 2) := by decide +kernel
theorem d_Mo_copy_174 : decode prog_14_method_8_code 174 = .ok (.iadd, 1) := by decide +kernel
theorem d_Mo_copy_175 : decode prog_14_method_8_code 175 = .ok (.iload 6, 2) := by decide +kernel
theorem d_Mo_copy_177 : decode prog_14_method_8_code 177 = .ok (.iadd, 1) := by decide +kernel
theorem d_Mo_copy_178 : decode prog_14_method_8_code 178 = .ok (.aload_n 0, 1) := by decide +kernel
theorem d_Mo_copy_179 : decode prog_14_method_8_code 179 = .ok (.getfield 19, 3) := by decide +kernel
theorem d_Mo_copy_182 : decode prog_14_method_8_code 182 = .ok (.iload 6, 2) := by decide +kernel
theorem d_Mo_copy_184 : decode prog_14_method_8_code 184 = .ok (.iaload, 1) := by decide +kernel
theorem d_Mo_copy_185 : decode prog_14_method_8_code 185 = .ok (.iastore, 1) := by decide +kernel
theorem d_Mo_copy_186 : decode prog_14_method_8_code 186 = .ok (.iinc 6 1, 3) := by decide +kernel
theorem d_Mo_copy_189 : decode prog_14_method_8_code 189 = .ok (.goto (-32), 3) := by decide +kernel
theorem d_Mo_copy_192 : decode prog_14_method_8_code 192 = .ok (.aload_n 0, 1) := by decide +kernel
theorem d_Mo_copy_193 : decode prog_14_method_8_code 193 = .ok (.iload 5, 2) := by decide +kernel
theorem d_Mo_copy_195 : decode prog_14_method_8_code 195 = .ok (.invokevirtual 117, 3) := by decide +kernel
theorem d_Mo_copy_198 : decode prog_14_method_8_code 198 = .ok (.ireturn, 1) := by decide +kernel
theorem d_Mo_drop_0 : decode prog_14_method_9_code 0 = .ok (.iload_n 1, 1) := by decide +kernel
theorem d_Mo_drop_1 : decode prog_14_method_9_code 1 = .ok (.invokestatic 106, 3) := by decide +kernel
theorem d_Mo_drop_4 : decode prog_14_method_9_code 4 = .ok (.ifCond .ne 6, 3) := by decide +kernel
theorem d_Mo_drop_7 : decode prog_14_method_9_code 7 = .ok (.ldc 112, 2) := by decide +kernel
theorem d_Mo_drop_9 : decode prog_14_method_9_code 9 = .ok (.ireturn, 1) := by decide +kernel
theorem d_Mo_drop_10 : decode prog_14_method_9_code 10 = .ok (.aload_n 0, 1) := by decide +kernel
theorem d_Mo_drop_11 : decode prog_14_method_9_code 11 = .ok (.getfield 7, 3) := by decide +kernel
theorem d_Mo_drop_14 : decode prog_14_method_9_code 14 = .ok (.iload_n 1, 1) := by decide +kernel
theorem d_Mo_drop_15 : decode prog_14_method_9_code 15 = .ok (.iaload, 1) := by decide +kernel
theorem d_Mo_drop_16 : decode prog_14_method_9_code 16 = .ok (.ifCond .ne 9, 3) := by decide +kernel
theorem d_Mo_drop_19 : decode prog_14_method_9_code 19 = .ok (.aload_n 0, 1) := by decide +kernel
theorem d_Mo_drop_20 : decode prog_14_method_9_code 20 = .ok (.iconst 1, 1) := by decide +kernel
theorem d_Mo_drop_21 : decode prog_14_method_9_code 21 = .ok (.invokevirtual 113, 3) := by decide +kernel
theorem d_Mo_drop_24 : decode prog_14_method_9_code 24 = .ok (.ireturn, 1) := by decide +kernel
theorem d_Mo_drop_25 : decode prog_14_method_9_code 25 = .ok (.aload_n 0, 1) := by decide +kernel
theorem d_Mo_drop_26 : decode prog_14_method_9_code 26 = .ok (.getfield 7, 3) := by decide +kernel
theorem d_Mo_drop_29 : decode prog_14_method_9_code 29 = .ok (.iload_n 1, 1) := by decide +kernel
theorem d_Mo_drop_30 : decode prog_14_method_9_code 30 = .ok (.iconst 0, 1) := by decide +kernel
theorem d_Mo_drop_31 : decode prog_14_method_9_code 31 = .ok (.iastore, 1) := by decide +kernel
theorem d_Mo_drop_32 : decode prog_14_method_9_code 32 = .ok (.aload_n 0, 1) := by decide +kernel
theorem d_Mo_drop_33 : decode prog_14_method_9_code 33 = .ok (.aload_n 0, 1) := by decide +kernel
theorem d_Mo_drop_34 : decode prog_14_method_9_code 34 = .ok (.getfield 13, 3) := by decide +kernel
theorem d_Mo_drop_37 : decode prog_14_method_9_code 37 = .ok (.iload_n 1, 1) := by decide +kernel
theorem d_Mo_drop_38 : decode prog_14_method_9_code 38 = .ok (.iaload, 1) := by decide +kernel
theorem d_Mo_drop_39 : decode prog_14_method_9_code 39 = .ok (.invokevirtual 117, 3) := by decide +kernel
theorem d_Mo_drop_42 : decode prog_14_method_9_code 42 = .ok (.ireturn, 1) := by decide +kernel
theorem d_Mo_row_0 : decode prog_14_method_19_code 0 = .ok (.iload_n 1, 1) := by decide +kernel
theorem d_Mo_row_1 : decode prog_14_method_19_code 1 = .ok (.invokestatic 152, 3) := by decide +kernel
theorem d_Mo_row_4 : decode prog_14_method_19_code 4 = .ok (.ifCond .eq 23, 3) := by decide +kernel
theorem d_Mo_row_7 : decode prog_14_method_19_code 7 = .ok (.iload_n 2, 1) := by decide +kernel
theorem d_Mo_row_8 : decode prog_14_method_19_code 8 = .ok (.invokestatic 106, 3) := by decide +kernel
theorem d_Mo_row_11 : decode prog_14_method_19_code 11 = .ok (.ifCond .eq 16, 3) := by decide +kernel
theorem d_Mo_row_14 : decode prog_14_method_19_code 14 = .ok (.iload 4, 2) := by decide +kernel
theorem d_Mo_row_16 : decode prog_14_method_19_code 16 = .ok (.i2l, 1) := by decide +kernel
theorem d_Mo_row_17 : decode prog_14_method_19_code 17 = .ok (.lconst 1, 1) := by decide +kernel
theorem d_Mo_row_18 : decode prog_14_method_19_code 18 = .ok (.ldc2_w 155, 3) := by decide +kernel
theorem d_Mo_row_21 : decode prog_14_method_19_code 21 = .ok (.invokestatic 102, 3) := by decide +kernel
theorem d_Mo_row_24 : decode prog_14_method_19_code 24 = .ok (.ifCond .ne 6, 3) := by decide +kernel
theorem d_Mo_row_27 : decode prog_14_method_19_code 27 = .ok (.ldc 112, 2) := by decide +kernel
theorem d_Mo_row_29 : decode prog_14_method_19_code 29 = .ok (.ireturn, 1) := by decide +kernel
theorem d_Mo_row_30 : decode prog_14_method_19_code 30 = .ok (.aload_n 0, 1) := by decide +kernel
theorem d_Mo_row_31 : decode prog_14_method_19_code 31 = .ok (.getfield 7, 3) := by decide +kernel
theorem d_Mo_row_34 : decode prog_14_method_19_code 34 = .ok (.iload_n 2, 1) := by decide +kernel
theorem d_Mo_row_35 : decode prog_14_method_19_code 35 = .ok (.iaload, 1) := by decide +kernel
theorem d_Mo_row_36 : decode prog_14_method_19_code 36 = .ok (.ifCond .ne 9, 3) := by decide +kernel
theorem d_Mo_row_39 : decode prog_14_method_19_code 39 = .ok (.aload_n 0, 1) := by decide +kernel
theorem d_Mo_row_40 : decode prog_14_method_19_code 40 = .ok (.iconst 1, 1) := by decide +kernel
theorem d_Mo_row_41 : decode prog_14_method_19_code 41 = .ok (.invokevirtual 113, 3) := by decide +kernel
theorem d_Mo_row_44 : decode prog_14_method_19_code 44 = .ok (.ireturn, 1) := by decide +kernel
theorem d_Mo_row_45 : decode prog_14_method_19_code 45 = .ok (.iload_n 3, 1) := by decide +kernel
theorem d_Mo_row_46 : decode prog_14_method_19_code 46 = .ok (.ifCond .lt 24, 3) := by decide +kernel
theorem d_Mo_row_49 : decode prog_14_method_19_code 49 = .ok (.iload_n 3, 1) := by decide +kernel
theorem d_Mo_row_50 : decode prog_14_method_19_code 50 = .ok (.i2l, 1) := by decide +kernel
theorem d_Mo_row_51 : decode prog_14_method_19_code 51 = .ok (.ldc2_w 110, 3) := by decide +kernel
theorem d_Mo_row_54 : decode prog_14_method_19_code 54 = .ok (.iload 4, 2) := by decide +kernel
theorem d_Mo_row_56 : decode prog_14_method_19_code 56 = .ok (.i2l, 1) := by decide +kernel
theorem d_Mo_row_57 : decode prog_14_method_19_code 57 = .ok (.lmul, 1) := by decide +kernel
theorem d_Mo_row_58 : decode prog_14_method_19_code 58 = .ok (.ladd, 1) := by decide +kernel
theorem d_Mo_row_59 : decode prog_14_method_19_code 59 = .ok (.aload_n 0, 1) := by decide +kernel
theorem d_Mo_row_60 : decode prog_14_method_19_code 60 = .ok (.getfield 13, 3) := by decide +kernel
theorem d_Mo_row_63 : decode prog_14_method_19_code 63 = .ok (.iload_n 2, 1) := by decide +kernel
theorem d_Mo_row_64 : decode prog_14_method_19_code 64 = .ok (.iaload, 1) := by decide +kernel
theorem d_Mo_row_65 : decode prog_14_method_19_code 65 = .ok (.i2l, 1) := by decide +kernel
theorem d_Mo_row_66 : decode prog_14_method_19_code 66 = .ok (.lcmp, 1) := by decide +kernel
theorem d_Mo_row_67 : decode prog_14_method_19_code 67 = .ok (.ifCond .le 9, 3) := by decide +kernel
theorem d_Mo_row_70 : decode prog_14_method_19_code 70 = .ok (.aload_n 0, 1) := by decide +kernel
theorem d_Mo_row_71 : decode prog_14_method_19_code 71 = .ok (.iconst 2, 1) := by decide +kernel
theorem d_Mo_row_72 : decode prog_14_method_19_code 72 = .ok (.invokevirtual 113, 3) := by decide +kernel
theorem d_Mo_row_75 : decode prog_14_method_19_code 75 = .ok (.ireturn, 1) := by decide +kernel
theorem d_Mo_row_76 : decode prog_14_method_19_code 76 = .ok (.aload_n 0, 1) := by decide +kernel
theorem d_Mo_row_77 : decode prog_14_method_19_code 77 = .ok (.getfield 25, 3) := by decide +kernel
theorem d_Mo_row_80 : decode prog_14_method_19_code 80 = .ok (.bipush 10, 2) := by decide +kernel
theorem d_Mo_row_82 : decode prog_14_method_19_code 82 = .ok (.iload 4, 2) := by decide +kernel
theorem d_Mo_row_84 : decode prog_14_method_19_code 84 = .ok (.iastore, 1) := by decide +kernel
theorem d_Mo_row_85 : decode prog_14_method_19_code 85 = .ok (.iconst 0, 1) := by decide +kernel
theorem d_Mo_row_86 : decode prog_14_method_19_code 86 = .ok (.istore 5, 2) := by decide +kernel
theorem d_Mo_row_88 : decode prog_14_method_19_code 88 = .ok (.iload 5, 2) := by decide +kernel
theorem d_Mo_row_90 : decode prog_14_method_19_code 90 = .ok (.iconst 2, 1) := by decide +kernel
theorem d_Mo_row_91 : decode prog_14_method_19_code 91 = .ok (.iload 4, 2) := by decide +kernel
theorem d_Mo_row_93 : decode prog_14_method_19_code 93 = .ok (.imul, 1) := by decide +kernel
theorem d_Mo_row_94 : decode prog_14_method_19_code 94 = .ok (.if_icmp .ge 54, 3) := by decide +kernel
theorem d_Mo_row_97 : decode prog_14_method_19_code 97 = .ok (.aload_n 0, 1) := by decide +kernel
theorem d_Mo_row_98 : decode prog_14_method_19_code 98 = .ok (.getfield 16, 3) := by decide +kernel
theorem d_Mo_row_101 : decode prog_14_method_19_code 101 = .ok (.bipush 100, 2) := by decide +kernel
theorem d_Mo_row_103 : decode prog_14_method_19_code 103 = .ok (.iload_n 2, 1) := by decide +kernel
theorem d_Mo_row_104 : decode prog_14_method_19_code 104 = .ok (.imul, 1) := by decide +kernel
theorem d_Mo_row_105 : decode prog_14_method_19_code 105 = .ok (.iload_n 3, 1) := by decide +kernel
theorem d_Mo_row_106 : decode prog_14_method_19_code 106 = .ok (.iadd, 1) := by decide +kernel
theorem d_Mo_row_107 : decode prog_14_method_19_code 107 = .ok (.iload 5, 2) := by decide +kernel
theorem d_Mo_row_109 : decode prog_14_method_19_code 109 = .ok (.iadd, 1) := by decide +kernel
theorem d_Mo_row_110 : decode prog_14_method_19_code 110 = .ok (.iaload, 1) := by decide +kernel
theorem d_Mo_row_111 : decode prog_14_method_19_code 111 = .ok (.istore 6, 2) := by decide +kernel
theorem d_Mo_row_113 : decode prog_14_method_19_code 113 = .ok (.iload 6, 2) := by decide +kernel
theorem d_Mo_row_115 : decode prog_14_method_19_code 115 = .ok (.ifCond .ne 6, 3) := by decide +kernel
theorem d_Mo_row_118 : decode prog_14_method_19_code 118 = .ok (.ldc 112, 2) := by decide +kernel
theorem d_Mo_row_120 : decode prog_14_method_19_code 120 = .ok (.ireturn, 1) := by decide +kernel
theorem d_Mo_row_121 : decode prog_14_method_19_code 121 = .ok (.aload_n 0, 1) := by decide +kernel
theorem d_Mo_row_122 : decode prog_14_method_19_code 122 = .ok (.getfield 28, 3) := by decide +kernel
theorem d_Mo_row_125 : decode prog_14_method_19_code 125 = .ok (.sipush 400, 3) := by decide +kernel
theorem d_Mo_row_128 : decode prog_14_method_19_code 128 = .ok (.iload 5, 2) := by decide +kernel
theorem d_Mo_row_130 : decode prog_14_method_19_code 130 = .ok (.iadd, 1) := by decide +kernel
theorem d_Mo_row_131 : decode prog_14_method_19_code 131 = .ok (.iload 6, 2) := by decide +kernel
theorem d_Mo_row_133 : decode prog_14_method_19_code 133 = .ok (.ifCond .le 7, 3) := by decide +kernel
theorem d_Mo_row_136 : decode prog_14_method_19_code 136 = .ok (.iconst 1, 1) := by decide +kernel
theorem d_Mo_row_137 : decode prog_14_method_19_code 137 = .ok (.goto 4, 3) := by decide +kernel
theorem d_Mo_row_140 : decode prog_14_method_19_code 140 = .ok (.iconst (-1), 1) := by decide +kernel
theorem d_Mo_row_141 : decode prog_14_method_19_code 141 = .ok (.iastore, 1) := by decide +kernel
theorem d_Mo_row_142 : decode prog_14_method_19_code 142 = .ok (.iinc 5 1, 3) := by decide +kernel
theorem d_Mo_row_145 : decode prog_14_method_19_code 145 = .ok (.goto (-57), 3) := by decide +kernel
theorem d_Mo_row_148 : decode prog_14_method_19_code 148 = .ok (.aload_n 0, 1) := by decide +kernel
theorem d_Mo_row_149 : decode prog_14_method_19_code 149 = .ok (.iload_n 1, 1) := by decide +kernel
theorem d_Mo_row_150 : decode prog_14_method_19_code 150 = .ok (.iconst 1, 1) := by decide +kernel
theorem d_Mo_row_151 : decode prog_14_method_19_code 151 = .ok (.invokevirtual 157, 3) := by decide +kernel
theorem d_Mo_row_154 : decode prog_14_method_19_code 154 = .ok (.ireturn, 1) := by decide +kernel
theorem d_Mo_isPlace_0 : decode prog_14_method_10_code 0 = .ok (.iload_n 0, 1) := by decide +kernel
theorem d_Mo_isPlace_1 : decode prog_14_method_10_code 1 = .ok (.i2l, 1) := by decide +kernel
theorem d_Mo_isPlace_2 : decode prog_14_method_10_code 2 = .ok (.lconst 0, 1) := by decide +kernel
theorem d_Mo_isPlace_3 : decode prog_14_method_10_code 3 = .ok (.ldc2_w 120, 3) := by decide +kernel
theorem d_Mo_isPlace_6 : decode prog_14_method_10_code 6 = .ok (.invokestatic 102, 3) := by decide +kernel
theorem d_Mo_isPlace_9 : decode prog_14_method_10_code 9 = .ok (.ireturn, 1) := by decide +kernel
theorem d_Mo_keep_0 : decode prog_14_method_18_code 0 = .ok (.iload_n 2, 1) := by decide +kernel
theorem d_Mo_keep_1 : decode prog_14_method_18_code 1 = .ok (.iconst 1, 1) := by decide +kernel
theorem d_Mo_keep_2 : decode prog_14_method_18_code 2 = .ok (.if_icmp .ne 17, 3) := by decide +kernel
theorem d_Mo_keep_5 : decode prog_14_method_18_code 5 = .ok (.aload_n 0, 1) := by decide +kernel
theorem d_Mo_keep_6 : decode prog_14_method_18_code 6 = .ok (.getfield 22, 3) := by decide +kernel
theorem d_Mo_keep_9 : decode prog_14_method_18_code 9 = .ok (.bipush 10, 2) := by decide +kernel
theorem d_Mo_keep_11 : decode prog_14_method_18_code 11 = .ok (.aload_n 0, 1) := by decide +kernel
theorem d_Mo_keep_12 : decode prog_14_method_18_code 12 = .ok (.invokevirtual 137, 3) := by decide +kernel
theorem d_Mo_keep_15 : decode prog_14_method_18_code 15 = .ok (.iastore, 1) := by decide +kernel
theorem d_Mo_keep_16 : decode prog_14_method_18_code 16 = .ok (.goto 125, 3) := by decide +kernel
theorem d_Mo_keep_19 : decode prog_14_method_18_code 19 = .ok (.iload_n 2, 1) := by decide +kernel
theorem d_Mo_keep_20 : decode prog_14_method_18_code 20 = .ok (.iconst 5, 1) := by decide +kernel
theorem d_Mo_keep_21 : decode prog_14_method_18_code 21 = .ok (.if_icmp .ne 85, 3) := by decide +kernel
theorem d_Mo_keep_24 : decode prog_14_method_18_code 24 = .ok (.aload_n 0, 1) := by decide +kernel
theorem d_Mo_keep_25 : decode prog_14_method_18_code 25 = .ok (.aload_n 0, 1) := by decide +kernel
theorem d_Mo_keep_26 : decode prog_14_method_18_code 26 = .ok (.getfield 28, 3) := by decide +kernel
theorem d_Mo_keep_29 : decode prog_14_method_18_code 29 = .ok (.aload_n 0, 1) := by decide +kernel
theorem d_Mo_keep_30 : decode prog_14_method_18_code 30 = .ok (.getfield 34, 3) := by decide +kernel
theorem d_Mo_keep_33 : decode prog_14_method_18_code 33 = .ok (.sipush 400, 3) := by decide +kernel
theorem d_Mo_keep_36 : decode prog_14_method_18_code 36 = .ok (.aload_n 0, 1) := by decide +kernel
theorem d_Mo_keep_37 : decode prog_14_method_18_code 37 = .ok (.getfield 25, 3) := by decide +kernel
theorem d_Mo_keep_40 : decode prog_14_method_18_code 40 = .ok (.bipush 10, 2) := by decide +kernel
theorem d_Mo_keep_42 : decode prog_14_method_18_code 42 = .ok (.iaload, 1) := by decide +kernel
theorem d_Mo_keep_43 : decode prog_14_method_18_code 43 = .ok (.invokevirtual 122, 3) := by decide +kernel
theorem d_Mo_keep_46 : decode prog_14_method_18_code 46 = .ok (.ifCond .eq 32, 3) := by decide +kernel
theorem d_Mo_keep_49 : decode prog_14_method_18_code 49 = .ok (.aload_n 0, 1) := by decide +kernel
theorem d_Mo_keep_50 : decode prog_14_method_18_code 50 = .ok (.aload_n 0, 1) := by decide +kernel
theorem d_Mo_keep_51 : decode prog_14_method_18_code 51 = .ok (.getfield 31, 3) := by decide +kernel
theorem d_Mo_keep_54 : decode prog_14_method_18_code 54 = .ok (.aload_n 0, 1) := by decide +kernel
theorem d_Mo_keep_55 : decode prog_14_method_18_code 55 = .ok (.getfield 37, 3) := by decide +kernel
theorem d_Mo_keep_58 : decode prog_14_method_18_code 58 = .ok (.sipush 400, 3) := by decide +kernel
theorem d_Mo_keep_61 : decode prog_14_method_18_code 61 = .ok (.aload_n 0, 1) := by decide +kernel
theorem d_Mo_keep_62 : decode prog_14_method_18_code 62 = .ok (.getfield 25, 3) := by decide +kernel
theorem d_Mo_keep_65 : decode prog_14_method_18_code 65 = .ok (.bipush 10, 2) := by decide +kernel
theorem d_Mo_keep_67 : decode prog_14_method_18_code 67 = .ok (.iaload, 1) := by decide +kernel
theorem d_Mo_keep_68 : decode prog_14_method_18_code 68 = .ok (.invokevirtual 122, 3) := by decide +kernel
theorem d_Mo_keep_71 : decode prog_14_method_18_code 71 = .ok (.ifCond .eq 7, 3) := by decide +kernel
theorem d_Mo_keep_74 : decode prog_14_method_18_code 74 = .ok (.iconst 1, 1) := by decide +kernel
theorem d_Mo_keep_75 : decode prog_14_method_18_code 75 = .ok (.goto 4, 3) := by decide +kernel
theorem d_Mo_keep_78 : decode prog_14_method_18_code 78 = .ok (.iconst 0, 1) := by decide +kernel
theorem d_Mo_keep_79 : decode prog_14_method_18_code 79 = .ok (.istore_n 3, 1) := by decide +kernel
theorem d_Mo_keep_80 : decode prog_14_method_18_code 80 = .ok (.aload_n 0, 1) := by decide +kernel
theorem d_Mo_keep_81 : decode prog_14_method_18_code 81 = .ok (.getfield 22, 3) := by decide +kernel
theorem d_Mo_keep_84 : decode prog_14_method_18_code 84 = .ok (.bipush 10, 2) := by decide +kernel
theorem d_Mo_keep_86 : decode prog_14_method_18_code 86 = .ok (.aload_n 0, 1) := by decide +kernel
theorem d_Mo_keep_87 : decode prog_14_method_18_code 87 = .ok (.bipush 10, 2) := by decide +kernel
theorem d_Mo_keep_89 : decode prog_14_method_18_code 89 = .ok (.invokevirtual 141, 3) := by decide +kernel
theorem d_Mo_keep_92 : decode prog_14_method_18_code 92 = .ok (.iconst 1, 1) := by decide +kernel
theorem d_Mo_keep_93 : decode prog_14_method_18_code 93 = .ok (.if_icmp .ne 8, 3) := by decide +kernel
theorem d_Mo_keep_96 : decode prog_14_method_18_code 96 = .ok (.bipush 6, 2) := by decide +kernel
theorem d_Mo_keep_98 : decode prog_14_method_18_code 98 = .ok (.goto 4, 3) := by decide +kernel
theorem d_Mo_keep_101 : decode prog_14_method_18_code 101 = .ok (.iconst 5, 1) := by decide +kernel
theorem d_Mo_keep_102 : decode prog_14_method_18_code 102 = .ok (.iastore, 1) := by decide +kernel
theorem d_Mo_keep_103 : decode prog_14_method_18_code 103 = .ok (.goto 38, 3) := by decide +kernel
theorem d_Mo_keep_106 : decode prog_14_method_18_code 106 = .ok (.aload_n 0, 1) := by decide +kernel
theorem d_Mo_keep_107 : decode prog_14_method_18_code 107 = .ok (.getfield 22, 3) := by decide +kernel
theorem d_Mo_keep_110 : decode prog_14_method_18_code 110 = .ok (.bipush 10, 2) := by decide +kernel
theorem d_Mo_keep_112 : decode prog_14_method_18_code 112 = .ok (.aload_n 0, 1) := by decide +kernel
theorem d_Mo_keep_113 : decode prog_14_method_18_code 113 = .ok (.aload_n 0, 1) := by decide +kernel
theorem d_Mo_keep_114 : decode prog_14_method_18_code 114 = .ok (.getfield 28, 3) := by decide +kernel
theorem d_Mo_keep_117 : decode prog_14_method_18_code 117 = .ok (.sipush 400, 3) := by decide +kernel
theorem d_Mo_keep_120 : decode prog_14_method_18_code 120 = .ok (.aload_n 0, 1) := by decide +kernel
theorem d_Mo_keep_121 : decode prog_14_method_18_code 121 = .ok (.getfield 25, 3) := by decide +kernel
theorem d_Mo_keep_124 : decode prog_14_method_18_code 124 = .ok (.bipush 10, 2) := by decide +kernel
theorem d_Mo_keep_126 : decode prog_14_method_18_code 126 = .ok (.iaload, 1) := by decide +kernel
theorem d_Mo_keep_127 : decode prog_14_method_18_code 127 = .ok (.invokevirtual 144, 3) := by decide +kernel
theorem d_Mo_keep_130 : decode prog_14_method_18_code 130 = .ok (.ifCond .eq 8, 3) := by decide +kernel
theorem d_Mo_keep_133 : decode prog_14_method_18_code 133 = .ok (.bipush 8, 2) := by decide +kernel
theorem d_Mo_keep_135 : decode prog_14_method_18_code 135 = .ok (.goto 5, 3) := by decide +kernel
theorem d_Mo_keep_138 : decode prog_14_method_18_code 138 = .ok (.bipush 7, 2) := by decide +kernel
theorem d_Mo_keep_140 : decode prog_14_method_18_code 140 = .ok (.iastore, 1) := by decide +kernel
theorem d_Mo_keep_141 : decode prog_14_method_18_code 141 = .ok (.aload_n 0, 1) := by decide +kernel
theorem d_Mo_keep_142 : decode prog_14_method_18_code 142 = .ok (.iload_n 1, 1) := by decide +kernel
theorem d_Mo_keep_143 : decode prog_14_method_18_code 143 = .ok (.bipush 10, 2) := by decide +kernel
theorem d_Mo_keep_145 : decode prog_14_method_18_code 145 = .ok (.invokevirtual 148, 3) := by decide +kernel
theorem d_Mo_keep_148 : decode prog_14_method_18_code 148 = .ok (.aload_n 0, 1) := by decide +kernel
theorem d_Mo_keep_149 : decode prog_14_method_18_code 149 = .ok (.aload_n 0, 1) := by decide +kernel
theorem d_Mo_keep_150 : decode prog_14_method_18_code 150 = .ok (.getfield 22, 3) := by decide +kernel
theorem d_Mo_keep_153 : decode prog_14_method_18_code 153 = .ok (.iload_n 1, 1) := by decide +kernel
theorem d_Mo_keep_154 : decode prog_14_method_18_code 154 = .ok (.iaload, 1) := by decide +kernel
theorem d_Mo_keep_155 : decode prog_14_method_18_code 155 = .ok (.invokevirtual 117, 3) := by decide +kernel
theorem d_Mo_keep_158 : decode prog_14_method_18_code 158 = .ok (.ireturn, 1) := by decide +kernel
theorem d_Mo_rowKind_0 : decode prog_14_method_13_code 0 = .ok (.sipush 400, 3) := by decide +kernel
theorem d_Mo_rowKind_3 : decode prog_14_method_13_code 3 = .ok (.istore_n 1, 1) := by decide +kernel
theorem d_Mo_rowKind_4 : decode prog_14_method_13_code 4 = .ok (.aload_n 0, 1) := by decide +kernel
theorem d_Mo_rowKind_5 : decode prog_14_method_13_code 5 = .ok (.getfield 25, 3) := by decide +kernel
theorem d_Mo_rowKind_8 : decode prog_14_method_13_code 8 = .ok (.bipush 10, 2) := by decide +kernel
theorem d_Mo_rowKind_10 : decode prog_14_method_13_code 10 = .ok (.iaload, 1) := by decide +kernel
theorem d_Mo_rowKind_11 : decode prog_14_method_13_code 11 = .ok (.istore_n 2, 1) := by decide +kernel
theorem d_Mo_rowKind_12 : decode prog_14_method_13_code 12 = .ok (.aload_n 0, 1) := by decide +kernel
theorem d_Mo_rowKind_13 : decode prog_14_method_13_code 13 = .ok (.aload_n 0, 1) := by decide +kernel
theorem d_Mo_rowKind_14 : decode prog_14_method_13_code 14 = .ok (.getfield 28, 3) := by decide +kernel
theorem d_Mo_rowKind_17 : decode prog_14_method_13_code 17 = .ok (.aload_n 0, 1) := by decide +kernel
theorem d_Mo_rowKind_18 : decode prog_14_method_13_code 18 = .ok (.getfield 34, 3) := by decide +kernel
theorem d_Mo_rowKind_21 : decode prog_14_method_13_code 21 = .ok (.iload_n 1, 1) := by decide +kernel
theorem d_Mo_rowKind_22 : decode prog_14_method_13_code 22 = .ok (.iload_n 2, 1) := by decide +kernel
theorem d_Mo_rowKind_23 : decode prog_14_method_13_code 23 = .ok (.invokevirtual 122, 3) := by decide +kernel
theorem d_Mo_rowKind_26 : decode prog_14_method_13_code 26 = .ok (.ifCond .ne 5, 3) := by decide +kernel
theorem d_Mo_rowKind_29 : decode prog_14_method_13_code 29 = .ok (.iconst 1, 1) := by decide +kernel
theorem d_Mo_rowKind_30 : decode prog_14_method_13_code 30 = .ok (.ireturn, 1) := by decide +kernel
theorem d_Mo_rowKind_31 : decode prog_14_method_13_code 31 = .ok (.iconst 1, 1) := by decide +kernel
theorem d_Mo_rowKind_32 : decode prog_14_method_13_code 32 = .ok (.istore_n 3, 1) := by decide +kernel
theorem d_Mo_rowKind_33 : decode prog_14_method_13_code 33 = .ok (.iconst 1, 1) := by decide +kernel
theorem d_Mo_rowKind_34 : decode prog_14_method_13_code 34 = .ok (.istore 4, 2) := by decide +kernel
theorem d_Mo_rowKind_36 : decode prog_14_method_13_code 36 = .ok (.iconst 0, 1) := by decide +kernel
theorem d_Mo_rowKind_37 : decode prog_14_method_13_code 37 = .ok (.istore 5, 2) := by decide +kernel
theorem d_Mo_rowKind_39 : decode prog_14_method_13_code 39 = .ok (.iload 5, 2) := by decide +kernel
theorem d_Mo_rowKind_41 : decode prog_14_method_13_code 41 = .ok (.iconst 2, 1) := by decide +kernel
theorem d_Mo_rowKind_42 : decode prog_14_method_13_code 42 = .ok (.iload_n 2, 1) := by decide +kernel
theorem d_Mo_rowKind_43 : decode prog_14_method_13_code 43 = .ok (.imul, 1) := by decide +kernel
theorem d_Mo_rowKind_44 : decode prog_14_method_13_code 44 = .ok (.if_icmp .ge 78, 3) := by decide +kernel
theorem d_Mo_rowKind_47 : decode prog_14_method_13_code 47 = .ok (.iload_n 3, 1) := by decide +kernel
theorem d_Mo_rowKind_48 : decode prog_14_method_13_code 48 = .ok (.ifCond .eq 31, 3) := by decide +kernel
theorem d_Mo_rowKind_51 : decode prog_14_method_13_code 51 = .ok (.aload_n 0, 1) := by decide +kernel
theorem d_Mo_rowKind_52 : decode prog_14_method_13_code 52 = .ok (.getfield 28, 3) := by decide +kernel
theorem d_Mo_rowKind_55 : decode prog_14_method_13_code 55 = .ok (.iload_n 1, 1) := by decide +kernel
theorem d_Mo_rowKind_56 : decode prog_14_method_13_code 56 = .ok (.iload 5, 2) := by decide +kernel
theorem d_Mo_rowKind_58 : decode prog_14_method_13_code 58 = .ok (.iadd, 1) := by decide +kernel
theorem d_Mo_rowKind_59 : decode prog_14_method_13_code 59 = .ok (.iaload, 1) := by decide +kernel
theorem d_Mo_rowKind_60 : decode prog_14_method_13_code 60 = .ok (.iload 5, 2) := by decide +kernel
theorem d_Mo_rowKind_62 : decode prog_14_method_13_code 62 = .ok (.iconst 2, 1) := by decide +kernel
theorem d_Mo_rowKind_63 : decode prog_14_method_13_code 63 = .ok (.irem, 1) := by decide +kernel
theorem d_Mo_rowKind_64 : decode prog_14_method_13_code 64 = .ok (.ifCond .ne 7, 3) := by decide +kernel
theorem d_Mo_rowKind_67 : decode prog_14_method_13_code 67 = .ok (.iconst 1, 1) := by decide +kernel
theorem d_Mo_rowKind_68 : decode prog_14_method_13_code 68 = .ok (.goto 4, 3) := by decide +kernel
theorem d_Mo_rowKind_71 : decode prog_14_method_13_code 71 = .ok (.iconst (-1), 1) := by decide +kernel
theorem d_Mo_rowKind_72 : decode prog_14_method_13_code 72 = .ok (.if_icmp .ne 7, 3) := by decide +kernel
theorem d_Mo_rowKind_75 : decode prog_14_method_13_code 75 = .ok (.iconst 1, 1) := by decide +kernel
theorem d_Mo_rowKind_76 : decode prog_14_method_13_code 76 = .ok (.goto 4, 3) := by decide +kernel
theorem d_Mo_rowKind_79 : decode prog_14_method_13_code 79 = .ok (.iconst 0, 1) := by decide +kernel
theorem d_Mo_rowKind_80 : decode prog_14_method_13_code 80 = .ok (.istore_n 3, 1) := by decide +kernel
theorem d_Mo_rowKind_81 : decode prog_14_method_13_code 81 = .ok (.iload 4, 2) := by decide +kernel
theorem d_Mo_rowKind_83 : decode prog_14_method_13_code 83 = .ok (.ifCond .eq 30, 3) := by decide +kernel
theorem d_Mo_rowKind_86 : decode prog_14_method_13_code 86 = .ok (.aload_n 0, 1) := by decide +kernel
theorem d_Mo_rowKind_87 : decode prog_14_method_13_code 87 = .ok (.getfield 28, 3) := by decide +kernel
theorem d_Mo_rowKind_90 : decode prog_14_method_13_code 90 = .ok (.iload_n 1, 1) := by decide +kernel
theorem d_Mo_rowKind_91 : decode prog_14_method_13_code 91 = .ok (.iload 5, 2) := by decide +kernel
theorem d_Mo_rowKind_93 : decode prog_14_method_13_code 93 = .ok (.iadd, 1) := by decide +kernel
theorem d_Mo_rowKind_94 : decode prog_14_method_13_code 94 = .ok (.iaload, 1) := by decide +kernel
theorem d_Mo_rowKind_95 : decode prog_14_method_13_code 95 = .ok (.iload 5, 2) := by decide +kernel
theorem d_Mo_rowKind_97 : decode prog_14_method_13_code 97 = .ok (.iload_n 2, 1) := by decide +kernel
theorem d_Mo_rowKind_98 : decode prog_14_method_13_code 98 = .ok (.if_icmp .ge 7, 3) := by decide +kernel
theorem d_Mo_rowKind_101 : decode prog_14_method_13_code 101 = .ok (.iconst 1, 1) := by decide +kernel
theorem d_Mo_rowKind_102 : decode prog_14_method_13_code 102 = .ok (.goto 4, 3) := by decide +kernel
theorem d_Mo_rowKind_105 : decode prog_14_method_13_code 105 = .ok (.iconst (-1), 1) := by decide +kernel
theorem d_Mo_rowKind_106 : decode prog_14_method_13_code 106 = .ok (.if_icmp .ne 7, 3) := by decide +kernel
theorem d_Mo_rowKind_109 : decode prog_14_method_13_code 109 = .ok (.iconst 1, 1) := by decide +kernel
theorem d_Mo_rowKind_110 : decode prog_14_method_13_code 110 = .ok (.goto 4, 3) := by decide +kernel
theorem d_Mo_rowKind_113 : decode prog_14_method_13_code 113 = .ok (.iconst 0, 1) := by decide +kernel
theorem d_Mo_rowKind_114 : decode prog_14_method_13_code 114 = .ok (.istore 4, 2) := by decide +kernel
theorem d_Mo_rowKind_116 : decode prog_14_method_13_code 116 = .ok (.iinc 5 1, 3) := by decide +kernel
theorem d_Mo_rowKind_119 : decode prog_14_method_13_code 119 = .ok (.goto (-80), 3) := by decide +kernel
theorem d_Mo_rowKind_122 : decode prog_14_method_13_code 122 = .ok (.iload_n 3, 1) := by decide +kernel
theorem d_Mo_rowKind_123 : decode prog_14_method_13_code 123 = .ok (.ifCond .eq 7, 3) := by decide +kernel
theorem d_Mo_rowKind_126 : decode prog_14_method_13_code 126 = .ok (.iconst 4, 1) := by decide +kernel
theorem d_Mo_rowKind_127 : decode prog_14_method_13_code 127 = .ok (.goto 13, 3) := by decide +kernel
theorem d_Mo_rowKind_130 : decode prog_14_method_13_code 130 = .ok (.iload 4, 2) := by decide +kernel
theorem d_Mo_rowKind_132 : decode prog_14_method_13_code 132 = .ok (.ifCond .eq 7, 3) := by decide +kernel
theorem d_Mo_rowKind_135 : decode prog_14_method_13_code 135 = .ok (.iconst 3, 1) := by decide +kernel
theorem d_Mo_rowKind_136 : decode prog_14_method_13_code 136 = .ok (.goto 4, 3) := by decide +kernel
theorem d_Mo_rowKind_139 : decode prog_14_method_13_code 139 = .ok (.iconst 2, 1) := by decide +kernel
theorem d_Mo_rowKind_140 : decode prog_14_method_13_code 140 = .ok (.ireturn, 1) := by decide +kernel
theorem d_Mo_joins_0 : decode prog_14_method_12_code 0 = .ok (.iconst 0, 1) := by decide +kernel
theorem d_Mo_joins_1 : decode prog_14_method_12_code 1 = .ok (.istore 5, 2) := by decide +kernel
theorem d_Mo_joins_3 : decode prog_14_method_12_code 3 = .ok (.iconst 0, 1) := by decide +kernel
theorem d_Mo_joins_4 : decode prog_14_method_12_code 4 = .ok (.istore 6, 2) := by decide +kernel
theorem d_Mo_joins_6 : decode prog_14_method_12_code 6 = .ok (.iload 6, 2) := by decide +kernel
theorem d_Mo_joins_8 : decode prog_14_method_12_code 8 = .ok (.iconst 2, 1) := by decide +kernel
theorem d_Mo_joins_9 : decode prog_14_method_12_code 9 = .ok (.iload 4, 2) := by decide +kernel
theorem d_Mo_joins_11 : decode prog_14_method_12_code 11 = .ok (.imul, 1) := by decide +kernel
theorem d_Mo_joins_12 : decode prog_14_method_12_code 12 = .ok (.if_icmp .ge 69, 3) := by decide +kernel
theorem d_Mo_joins_15 : decode prog_14_method_12_code 15 = .ok (.aload_n 1, 1) := by decide +kernel
theorem d_Mo_joins_16 : decode prog_14_method_12_code 16 = .ok (.iload_n 3, 1) := by decide +kernel
theorem d_Mo_joins_17 : decode prog_14_method_12_code 17 = .ok (.iload 6, 2) := by decide +kernel
theorem d_Mo_joins_19 : decode prog_14_method_12_code 19 = .ok (.iadd, 1) := by decide +kernel
theorem d_Mo_joins_20 : decode prog_14_method_12_code 20 = .ok (.iaload, 1) := by decide +kernel
theorem d_Mo_joins_21 : decode prog_14_method_12_code 21 = .ok (.ifCond .le 18, 3) := by decide +kernel
theorem d_Mo_joins_24 : decode prog_14_method_12_code 24 = .ok (.aload_n 0, 1) := by decide +kernel
theorem d_Mo_joins_25 : decode prog_14_method_12_code 25 = .ok (.getfield 43, 3) := by decide +kernel
theorem d_Mo_joins_28 : decode prog_14_method_12_code 28 = .ok (.iload 5, 2) := by decide +kernel
theorem d_Mo_joins_30 : decode prog_14_method_12_code 30 = .ok (.iload 6, 2) := by decide +kernel
theorem d_Mo_joins_32 : decode prog_14_method_12_code 32 = .ok (.iastore, 1) := by decide +kernel
theorem d_Mo_joins_33 : decode prog_14_method_12_code 33 = .ok (.iinc 5 1, 3) := by decide +kernel
theorem d_Mo_joins_36 : decode prog_14_method_12_code 36 = .ok (.goto 39, 3) := by decide +kernel
theorem d_Mo_joins_39 : decode prog_14_method_12_code 39 = .ok (.iload 5, 2) := by decide +kernel
theorem d_Mo_joins_41 : decode prog_14_method_12_code 41 = .ok (.ifCond .ne 5, 3) := by decide +kernel
theorem d_Mo_joins_44 : decode prog_14_method_12_code 44 = .ok (.iconst 0, 1) := by decide +kernel
theorem d_Mo_joins_45 : decode prog_14_method_12_code 45 = .ok (.ireturn, 1) := by decide +kernel
theorem d_Mo_joins_46 : decode prog_14_method_12_code 46 = .ok (.iinc 5 (-1), 3) := by decide +kernel
theorem d_Mo_joins_49 : decode prog_14_method_12_code 49 = .ok (.aload_n 2, 1) := by decide +kernel
theorem d_Mo_joins_50 : decode prog_14_method_12_code 50 = .ok (.iload_n 3, 1) := by decide +kernel
theorem d_Mo_joins_51 : decode prog_14_method_12_code 51 = .ok (.iload 6, 2) := by decide +kernel
theorem d_Mo_joins_53 : decode prog_14_method_12_code 53 = .ok (.iadd, 1) := by decide +kernel
theorem d_Mo_joins_54 : decode prog_14_method_12_code 54 = .ok (.aload_n 0, 1) := by decide +kernel
theorem d_Mo_joins_55 : decode prog_14_method_12_code 55 = .ok (.getfield 43, 3) := by decide +kernel
theorem d_Mo_joins_58 : decode prog_14_method_12_code 58 = .ok (.iload 5, 2) := by decide +kernel
theorem d_Mo_joins_60 : decode prog_14_method_12_code 60 = .ok (.iaload, 1) := by decide +kernel
theorem d_Mo_joins_61 : decode prog_14_method_12_code 61 = .ok (.iastore, 1) := by decide +kernel
theorem d_Mo_joins_62 : decode prog_14_method_12_code 62 = .ok (.aload_n 2, 1) := by decide +kernel
theorem d_Mo_joins_63 : decode prog_14_method_12_code 63 = .ok (.iload_n 3, 1) := by decide +kernel
theorem d_Mo_joins_64 : decode prog_14_method_12_code 64 = .ok (.aload_n 0, 1) := by decide +kernel
theorem d_Mo_joins_65 : decode prog_14_method_12_code 65 = .ok (.getfield 43, 3) := by decide +kernel
theorem d_Mo_joins_68 : decode prog_14_method_12_code 68 = .ok (.iload 5, 2) := by decide +kernel
theorem d_Mo_joins_70 : decode prog_14_method_12_code 70 = .ok (.iaload, 1) := by decide +kernel
theorem d_Mo_joins_71 : decode prog_14_method_12_code 71 = .ok (.iadd, 1) := by decide +kernel
theorem d_Mo_joins_72 : decode prog_14_method_12_code 72 = .ok (.iload 6, 2) := by decide +kernel
theorem d_Mo_joins_74 : decode prog_14_method_12_code 74 = .ok (.iastore, 1) := by decide +kernel
theorem d_Mo_joins_75 : decode prog_14_method_12_code 75 = .ok (.iinc 6 1, 3) := by decide +kernel
theorem d_Mo_joins_78 : decode prog_14_method_12_code 78 = .ok (.goto (-72), 3) := by decide +kernel
theorem d_Mo_joins_81 : decode prog_14_method_12_code 81 = .ok (.iload 5, 2) := by decide +kernel
theorem d_Mo_joins_83 : decode prog_14_method_12_code 83 = .ok (.ifCond .ne 7, 3) := by decide +kernel
theorem d_Mo_joins_86 : decode prog_14_method_12_code 86 = .ok (.iconst 1, 1) := by decide +kernel
theorem d_Mo_joins_87 : decode prog_14_method_12_code 87 = .ok (.goto 4, 3) := by decide +kernel
theorem d_Mo_joins_90 : decode prog_14_method_12_code 90 = .ok (.iconst 0, 1) := by decide +kernel
theorem d_Mo_joins_91 : decode prog_14_method_12_code 91 = .ok (.ireturn, 1) := by decide +kernel
theorem d_Mo_landLoops_0 : decode prog_14_method_15_code 0 = .ok (.aload_n 0, 1) := by decide +kernel
theorem d_Mo_landLoops_1 : decode prog_14_method_15_code 1 = .ok (.aload_n 0, 1) := by decide +kernel
theorem d_Mo_landLoops_2 : decode prog_14_method_15_code 2 = .ok (.getfield 34, 3) := by decide +kernel
theorem d_Mo_landLoops_5 : decode prog_14_method_15_code 5 = .ok (.bipush 40, 2) := by decide +kernel
theorem d_Mo_landLoops_7 : decode prog_14_method_15_code 7 = .ok (.iload_n 1, 1) := by decide +kernel
theorem d_Mo_landLoops_8 : decode prog_14_method_15_code 8 = .ok (.imul, 1) := by decide +kernel
theorem d_Mo_landLoops_9 : decode prog_14_method_15_code 9 = .ok (.aload_n 0, 1) := by decide +kernel
theorem d_Mo_landLoops_10 : decode prog_14_method_15_code 10 = .ok (.getfield 37, 3) := by decide +kernel
theorem d_Mo_landLoops_13 : decode prog_14_method_15_code 13 = .ok (.bipush 40, 2) := by decide +kernel
theorem d_Mo_landLoops_15 : decode prog_14_method_15_code 15 = .ok (.iload_n 1, 1) := by decide +kernel
theorem d_Mo_landLoops_16 : decode prog_14_method_15_code 16 = .ok (.imul, 1) := by decide +kernel
theorem d_Mo_landLoops_17 : decode prog_14_method_15_code 17 = .ok (.aload_n 0, 1) := by decide +kernel
theorem d_Mo_landLoops_18 : decode prog_14_method_15_code 18 = .ok (.getfield 25, 3) := by decide +kernel
theorem d_Mo_landLoops_21 : decode prog_14_method_15_code 21 = .ok (.iload_n 1, 1) := by decide +kernel
theorem d_Mo_landLoops_22 : decode prog_14_method_15_code 22 = .ok (.iaload, 1) := by decide +kernel
theorem d_Mo_landLoops_23 : decode prog_14_method_15_code 23 = .ok (.invokevirtual 126, 3) := by decide +kernel
theorem d_Mo_landLoops_26 : decode prog_14_method_15_code 26 = .ok (.ireturn, 1) := by decide +kernel
theorem d_Mo_findLoops_0 : decode prog_14_method_14_code 0 = .ok (.iconst 0, 1) := by decide +kernel
theorem d_Mo_findLoops_1 : decode prog_14_method_14_code 1 = .ok (.istore 6, 2) := by decide +kernel
theorem d_Mo_findLoops_3 : decode prog_14_method_14_code 3 = .ok (.iconst 0, 1) := by decide +kernel
theorem d_Mo_findLoops_4 : decode prog_14_method_14_code 4 = .ok (.istore 7, 2) := by decide +kernel
theorem d_Mo_findLoops_6 : decode prog_14_method_14_code 6 = .ok (.iload 7, 2) := by decide +kernel
theorem d_Mo_findLoops_8 : decode prog_14_method_14_code 8 = .ok (.iconst 2, 1) := by decide +kernel
theorem d_Mo_findLoops_9 : decode prog_14_method_14_code 9 = .ok (.iload 5, 2) := by decide +kernel
theorem d_Mo_findLoops_11 : decode prog_14_method_14_code 11 = .ok (.imul, 1) := by decide +kernel
theorem d_Mo_findLoops_12 : decode prog_14_method_14_code 12 = .ok (.if_icmp .ge 17, 3) := by decide +kernel
theorem d_Mo_findLoops_15 : decode prog_14_method_14_code 15 = .ok (.aload_n 0, 1) := by decide +kernel
theorem d_Mo_findLoops_16 : decode prog_14_method_14_code 16 = .ok (.getfield 46, 3) := by decide +kernel
theorem d_Mo_findLoops_19 : decode prog_14_method_14_code 19 = .ok (.iload 7, 2) := by decide +kernel
theorem d_Mo_findLoops_21 : decode prog_14_method_14_code 21 = .ok (.iconst (-1), 1) := by decide +kernel
theorem d_Mo_findLoops_22 : decode prog_14_method_14_code 22 = .ok (.iastore, 1) := by decide +kernel
theorem d_Mo_findLoops_23 : decode prog_14_method_14_code 23 = .ok (.iinc 7 1, 3) := by decide +kernel
theorem d_Mo_findLoops_26 : decode prog_14_method_14_code 26 = .ok (.goto (-20), 3) := by decide +kernel
theorem d_Mo_findLoops_29 : decode prog_14_method_14_code 29 = .ok (.iconst 0, 1) := by decide +kernel
theorem d_Mo_findLoops_30 : decode prog_14_method_14_code 30 = .ok (.istore 7, 2) := by decide +kernel
theorem d_Mo_findLoops_32 : decode prog_14_method_14_code 32 = .ok (.iload 7, 2) := by decide +kernel
theorem d_Mo_findLoops_34 : decode prog_14_method_14_code 34 = .ok (.iconst 2, 1) := by decide +kernel
theorem d_Mo_findLoops_35 : decode prog_14_method_14_code 35 = .ok (.iload 5, 2) := by decide +kernel
theorem d_Mo_findLoops_37 : decode prog_14_method_14_code 37 = .ok (.imul, 1) := by decide +kernel
theorem d_Mo_findLoops_38 : decode prog_14_method_14_code 38 = .ok (.if_icmp .ge 74, 3) := by decide +kernel
theorem d_Mo_findLoops_41 : decode prog_14_method_14_code 41 = .ok (.aload_n 0, 1) := by decide +kernel
theorem d_Mo_findLoops_42 : decode prog_14_method_14_code 42 = .ok (.getfield 46, 3) := by decide +kernel
theorem d_Mo_findLoops_45 : decode prog_14_method_14_code 45 = .ok (.iload 7, 2) := by decide +kernel
theorem d_Mo_findLoops_47 : decode prog_14_method_14_code 47 = .ok (.iaload, 1) := by decide +kernel
theorem d_Mo_findLoops_48 : decode prog_14_method_14_code 48 = .ok (.ifCond .ge 58, 3) := by decide +kernel
theorem d_Mo_findLoops_51 : decode prog_14_method_14_code 51 = .ok (.iload 7, 2) := by decide +kernel
theorem d_Mo_findLoops_53 : decode prog_14_method_14_code 53 = .ok (.istore 8, 2) := by decide +kernel
theorem d_Mo_findLoops_55 : decode prog_14_method_14_code 55 = .ok (.aload_n 0, 1) := by decide +kernel
theorem d_Mo_findLoops_56 : decode prog_14_method_14_code 56 = .ok (.getfield 46, 3) := by decide +kernel
theorem d_Mo_findLoops_59 : decode prog_14_method_14_code 59 = .ok (.iload 8, 2) := by decide +kernel
theorem d_Mo_findLoops_61 : decode prog_14_method_14_code 61 = .ok (.iaload, 1) := by decide +kernel
theorem d_Mo_findLoops_62 : decode prog_14_method_14_code 62 = .ok (.ifCond .ge 41, 3) := by decide +kernel
theorem d_Mo_findLoops_65 : decode prog_14_method_14_code 65 = .ok (.aload_n 0, 1) := by decide +kernel
theorem d_Mo_findLoops_66 : decode prog_14_method_14_code 66 = .ok (.getfield 46, 3) := by decide +kernel
theorem d_Mo_findLoops_69 : decode prog_14_method_14_code 69 = .ok (.iload 8, 2) := by decide +kernel
theorem d_Mo_findLoops_71 : decode prog_14_method_14_code 71 = .ok (.iload 6, 2) := by decide +kernel
theorem d_Mo_findLoops_73 : decode prog_14_method_14_code 73 = .ok (.iastore, 1) := by decide +kernel
theorem d_Mo_findLoops_74 : decode prog_14_method_14_code 74 = .ok (.aload_n 1, 1) := by decide +kernel
theorem d_Mo_findLoops_75 : decode prog_14_method_14_code 75 = .ok (.iload_n 2, 1) := by decide +kernel
theorem d_Mo_findLoops_76 : decode prog_14_method_14_code 76 = .ok (.iload 8, 2) := by decide +kernel
theorem d_Mo_findLoops_78 : decode prog_14_method_14_code 78 = .ok (.iadd, 1) := by decide +kernel
theorem d_Mo_findLoops_79 : decode prog_14_method_14_code 79 = .ok (.iaload, 1) := by decide +kernel
theorem d_Mo_findLoops_80 : decode prog_14_method_14_code 80 = .ok (.istore 8, 2) := by decide +kernel
theorem d_Mo_findLoops_82 : decode prog_14_method_14_code 82 = .ok (.aload_n 0, 1) := by decide +kernel
theorem d_Mo_findLoops_83 : decode prog_14_method_14_code 83 = .ok (.getfield 46, 3) := by decide +kernel
theorem d_Mo_findLoops_86 : decode prog_14_method_14_code 86 = .ok (.iload 8, 2) := by decide +kernel
theorem d_Mo_findLoops_88 : decode prog_14_method_14_code 88 = .ok (.iload 6, 2) := by decide +kernel
theorem d_Mo_findLoops_90 : decode prog_14_method_14_code 90 = .ok (.iastore, 1) := by decide +kernel
theorem d_Mo_findLoops_91 : decode prog_14_method_14_code 91 = .ok (.aload_n 3, 1) := by decide +kernel
theorem d_Mo_findLoops_92 : decode prog_14_method_14_code 92 = .ok (.iload 4, 2) := by decide +kernel
theorem d_Mo_findLoops_94 : decode prog_14_method_14_code 94 = .ok (.iload 8, 2) := by decide +kernel
theorem d_Mo_findLoops_96 : decode prog_14_method_14_code 96 = .ok (.iadd, 1) := by decide +kernel
theorem d_Mo_findLoops_97 : decode prog_14_method_14_code 97 = .ok (.iaload, 1) := by decide +kernel
theorem d_Mo_findLoops_98 : decode prog_14_method_14_code 98 = .ok (.istore 8, 2) := by decide +kernel
theorem d_Mo_findLoops_100 : decode prog_14_method_14_code 100 = .ok (.goto (-45), 3) := by decide +kernel
theorem d_Mo_findLoops_103 : decode prog_14_method_14_code 103 = .ok (.iinc 6 1, 3) := by decide +kernel
theorem d_Mo_findLoops_106 : decode prog_14_method_14_code 106 = .ok (.iinc 7 1, 3) := by decide +kernel
theorem d_Mo_findLoops_109 : decode prog_14_method_14_code 109 = .ok (.goto (-77), 3) := by decide +kernel
theorem d_Mo_findLoops_112 : decode prog_14_method_14_code 112 = .ok (.iload 6, 2) := by decide +kernel
theorem d_Mo_findLoops_114 : decode prog_14_method_14_code 114 = .ok (.ireturn, 1) := by decide +kernel
theorem d_Mo_isFolding_0 : decode prog_14_method_16_code 0 = .ok (.iconst 0, 1) := by decide +kernel
theorem d_Mo_isFolding_1 : decode prog_14_method_16_code 1 = .ok (.istore 4, 2) := by decide +kernel
theorem d_Mo_isFolding_3 : decode prog_14_method_16_code 3 = .ok (.iload 4, 2) := by decide +kernel
theorem d_Mo_isFolding_5 : decode prog_14_method_16_code 5 = .ok (.iload_n 3, 1) := by decide +kernel
theorem d_Mo_isFolding_6 : decode prog_14_method_16_code 6 = .ok (.if_icmp .ge 22, 3) := by decide +kernel
theorem d_Mo_isFolding_9 : decode prog_14_method_16_code 9 = .ok (.aload_n 0, 1) := by decide +kernel
theorem d_Mo_isFolding_10 : decode prog_14_method_16_code 10 = .ok (.getfield 49, 3) := by decide +kernel
theorem d_Mo_isFolding_13 : decode prog_14_method_16_code 13 = .ok (.aload_n 1, 1) := by decide +kernel
theorem d_Mo_isFolding_14 : decode prog_14_method_16_code 14 = .ok (.iload_n 2, 1) := by decide +kernel
theorem d_Mo_isFolding_15 : decode prog_14_method_16_code 15 = .ok (.iload 4, 2) := by decide +kernel
theorem d_Mo_isFolding_17 : decode prog_14_method_16_code 17 = .ok (.iadd, 1) := by decide +kernel
theorem d_Mo_isFolding_18 : decode prog_14_method_16_code 18 = .ok (.iaload, 1) := by decide +kernel
theorem d_Mo_isFolding_19 : decode prog_14_method_16_code 19 = .ok (.iload 4, 2) := by decide +kernel
theorem d_Mo_isFolding_21 : decode prog_14_method_16_code 21 = .ok (.iastore, 1) := by decide +kernel
theorem d_Mo_isFolding_22 : decode prog_14_method_16_code 22 = .ok (.iinc 4 1, 3) := by decide +kernel
theorem d_Mo_isFolding_25 : decode prog_14_method_16_code 25 = .ok (.goto (-22), 3) := by decide +kernel
theorem d_Mo_isFolding_28 : decode prog_14_method_16_code 28 = .ok (.iconst 0, 1) := by decide +kernel
theorem d_Mo_isFolding_29 : decode prog_14_method_16_code 29 = .ok (.istore 4, 2) := by decide +kernel
theorem d_Mo_isFolding_31 : decode prog_14_method_16_code 31 = .ok (.iload 4, 2) := by decide +kernel
theorem d_Mo_isFolding_33 : decode prog_14_method_16_code 33 = .ok (.iconst 1, 1) := by decide +kernel
theorem d_Mo_isFolding_34 : decode prog_14_method_16_code 34 = .ok (.iadd, 1) := by decide +kernel
theorem d_Mo_isFolding_35 : decode prog_14_method_16_code 35 = .ok (.iload_n 3, 1) := by decide +kernel
theorem d_Mo_isFolding_36 : decode prog_14_method_16_code 36 = .ok (.if_icmp .ge 196, 3) := by decide +kernel
theorem d_Mo_isFolding_39 : decode prog_14_method_16_code 39 = .ok (.aload_n 0, 1) := by decide +kernel
theorem d_Mo_isFolding_40 : decode prog_14_method_16_code 40 = .ok (.getfield 49, 3) := by decide +kernel
theorem d_Mo_isFolding_43 : decode prog_14_method_16_code 43 = .ok (.iload 4, 2) := by decide +kernel
theorem d_Mo_isFolding_45 : decode prog_14_method_16_code 45 = .ok (.iaload, 1) := by decide +kernel
theorem d_Mo_isFolding_46 : decode prog_14_method_16_code 46 = .ok (.aload_n 0, 1) := by decide +kernel
theorem d_Mo_isFolding_47 : decode prog_14_method_16_code 47 = .ok (.getfield 49, 3) := by decide +kernel
theorem d_Mo_isFolding_50 : decode prog_14_method_16_code 50 = .ok (.iload 4, 2) := by decide +kernel
theorem d_Mo_isFolding_52 : decode prog_14_method_16_code 52 = .ok (.iconst 1, 1) := by decide +kernel
theorem d_Mo_isFolding_53 : decode prog_14_method_16_code 53 = .ok (.iadd, 1) := by decide +kernel
theorem d_Mo_isFolding_54 : decode prog_14_method_16_code 54 = .ok (.iaload, 1) := by decide +kernel
theorem d_Mo_isFolding_55 : decode prog_14_method_16_code 55 = .ok (.if_icmp .ge 13, 3) := by decide +kernel
theorem d_Mo_isFolding_58 : decode prog_14_method_16_code 58 = .ok (.aload_n 0, 1) := by decide +kernel
theorem d_Mo_isFolding_59 : decode prog_14_method_16_code 59 = .ok (.getfield 49, 3) := by decide +kernel
theorem d_Mo_isFolding_62 : decode prog_14_method_16_code 62 = .ok (.iload 4, 2) := by decide +kernel
theorem d_Mo_isFolding_64 : decode prog_14_method_16_code 64 = .ok (.iaload, 1) := by decide +kernel
theorem d_Mo_isFolding_65 : decode prog_14_method_16_code 65 = .ok (.goto 12, 3) := by decide +kernel
theorem d_Mo_isFolding_68 : decode prog_14_method_16_code 68 = .ok (.aload_n 0, 1) := by decide +kernel
theorem d_Mo_isFolding_69 : decode prog_14_method_16_code 69 = .ok (.getfield 49, 3) := by decide +kernel
theorem d_Mo_isFolding_72 : decode prog_14_method_16_code 72 = .ok (.iload 4, 2) := by decide +kernel
theorem d_Mo_isFolding_74 : decode prog_14_method_16_code 74 = .ok (.iconst 1, 1) := by decide +kernel
theorem d_Mo_isFolding_75 : decode prog_14_method_16_code 75 = .ok (.iadd, 1) := by decide +kernel
theorem d_Mo_isFolding_76 : decode prog_14_method_16_code 76 = .ok (.iaload, 1) := by decide +kernel
theorem d_Mo_isFolding_77 : decode prog_14_method_16_code 77 = .ok (.istore 5, 2) := by decide +kernel
theorem d_Mo_isFolding_79 : decode prog_14_method_16_code 79 = .ok (.aload_n 0, 1) := by decide +kernel
theorem d_Mo_isFolding_80 : decode prog_14_method_16_code 80 = .ok (.getfield 49, 3) := by decide +kernel
theorem d_Mo_isFolding_83 : decode prog_14_method_16_code 83 = .ok (.iload 4, 2) := by decide +kernel
theorem d_Mo_isFolding_85 : decode prog_14_method_16_code 85 = .ok (.iaload, 1) := by decide +kernel
theorem d_Mo_isFolding_86 : decode prog_14_method_16_code 86 = .ok (.aload_n 0, 1) := by decide +kernel
theorem d_Mo_isFolding_87 : decode prog_14_method_16_code 87 = .ok (.getfield 49, 3) := by decide +kernel
theorem d_Mo_isFolding_90 : decode prog_14_method_16_code 90 = .ok (.iload 4, 2) := by decide +kernel
theorem d_Mo_isFolding_92 : decode prog_14_method_16_code 92 = .ok (.iconst 1, 1) := by decide +kernel
theorem d_Mo_isFolding_93 : decode prog_14_method_16_code 93 = .ok (.iadd, 1) := by decide +kernel
theorem d_Mo_isFolding_94 : decode prog_14_method_16_code 94 = .ok (.iaload, 1) := by decide +kernel
theorem d_Mo_isFolding_95 : decode prog_14_method_16_code 95 = .ok (.if_icmp .ge 15, 3) := by decide +kernel
theorem d_Mo_isFolding_98 : decode prog_14_method_16_code 98 = .ok (.aload_n 0, 1) := by decide +kernel
theorem d_Mo_isFolding_99 : decode prog_14_method_16_code 99 = .ok (.getfield 49, 3) := by decide +kernel
theorem d_Mo_isFolding_102 : decode prog_14_method_16_code 102 = .ok (.iload 4, 2) := by decide +kernel
theorem d_Mo_isFolding_104 : decode prog_14_method_16_code 104 = .ok (.iconst 1, 1) := by decide +kernel
theorem d_Mo_isFolding_105 : decode prog_14_method_16_code 105 = .ok (.iadd, 1) := by decide +kernel
theorem d_Mo_isFolding_106 : decode prog_14_method_16_code 106 = .ok (.iaload, 1) := by decide +kernel
theorem d_Mo_isFolding_107 : decode prog_14_method_16_code 107 = .ok (.goto 10, 3) := by decide +kernel
theorem d_Mo_isFolding_110 : decode prog_14_method_16_code 110 = .ok (.aload_n 0, 1) := by decide +kernel
theorem d_Mo_isFolding_111 : decode prog_14_method_16_code 111 = .ok (.getfield 49, 3) := by decide +kernel
theorem d_Mo_isFolding_114 : decode prog_14_method_16_code 114 = .ok (.iload 4, 2) := by decide +kernel
theorem d_Mo_isFolding_116 : decode prog_14_method_16_code 116 = .ok (.iaload, 1) := by decide +kernel
theorem d_Mo_isFolding_117 : decode prog_14_method_16_code 117 = .ok (.istore 6, 2) := by decide +kernel
theorem d_Mo_isFolding_119 : decode prog_14_method_16_code 119 = .ok (.iload 4, 2) := by decide +kernel
theorem d_Mo_isFolding_121 : decode prog_14_method_16_code 121 = .ok (.iconst 2, 1) := by decide +kernel
theorem d_Mo_isFolding_122 : decode prog_14_method_16_code 122 = .ok (.iadd, 1) := by decide +kernel
theorem d_Mo_isFolding_123 : decode prog_14_method_16_code 123 = .ok (.istore 7, 2) := by decide +kernel
theorem d_Mo_isFolding_125 : decode prog_14_method_16_code 125 = .ok (.iload 7, 2) := by decide +kernel
theorem d_Mo_isFolding_127 : decode prog_14_method_16_code 127 = .ok (.iconst 1, 1) := by decide +kernel
theorem d_Mo_isFolding_128 : decode prog_14_method_16_code 128 = .ok (.iadd, 1) := by decide +kernel
theorem d_Mo_isFolding_129 : decode prog_14_method_16_code 129 = .ok (.iload_n 3, 1) := by decide +kernel
theorem d_Mo_isFolding_130 : decode prog_14_method_16_code 130 = .ok (.if_icmp .ge 96, 3) := by decide +kernel
theorem d_Mo_isFolding_133 : decode prog_14_method_16_code 133 = .ok (.aload_n 0, 1) := by decide +kernel
theorem d_Mo_isFolding_134 : decode prog_14_method_16_code 134 = .ok (.getfield 49, 3) := by decide +kernel
theorem d_Mo_isFolding_137 : decode prog_14_method_16_code 137 = .ok (.iload 7, 2) := by decide +kernel
theorem d_Mo_isFolding_139 : decode prog_14_method_16_code 139 = .ok (.iaload, 1) := by decide +kernel
theorem d_Mo_isFolding_140 : decode prog_14_method_16_code 140 = .ok (.iload 5, 2) := by decide +kernel
theorem d_Mo_isFolding_142 : decode prog_14_method_16_code 142 = .ok (.if_icmp .le 19, 3) := by decide +kernel
theorem d_Mo_isFolding_145 : decode prog_14_method_16_code 145 = .ok (.aload_n 0, 1) := by decide +kernel
theorem d_Mo_isFolding_146 : decode prog_14_method_16_code 146 = .ok (.getfield 49, 3) := by decide +kernel
theorem d_Mo_isFolding_149 : decode prog_14_method_16_code 149 = .ok (.iload 7, 2) := by decide +kernel
theorem d_Mo_isFolding_151 : decode prog_14_method_16_code 151 = .ok (.iaload, 1) := by decide +kernel
theorem d_Mo_isFolding_152 : decode prog_14_method_16_code 152 = .ok (.iload 6, 2) := by decide +kernel
theorem d_Mo_isFolding_154 : decode prog_14_method_16_code 154 = .ok (.if_icmp .ge 7, 3) := by decide +kernel
theorem d_Mo_isFolding_157 : decode prog_14_method_16_code 157 = .ok (.iconst 1, 1) := by decide +kernel
theorem d_Mo_isFolding_158 : decode prog_14_method_16_code 158 = .ok (.goto 4, 3) := by decide +kernel
theorem d_Mo_isFolding_161 : decode prog_14_method_16_code 161 = .ok (.iconst 0, 1) := by decide +kernel
theorem d_Mo_isFolding_162 : decode prog_14_method_16_code 162 = .ok (.istore 8, 2) := by decide +kernel
theorem d_Mo_isFolding_164 : decode prog_14_method_16_code 164 = .ok (.aload_n 0, 1) := by decide +kernel
theorem d_Mo_isFolding_165 : decode prog_14_method_16_code 165 = .ok (.getfield 49, 3) := by decide +kernel
theorem d_Mo_isFolding_168 : decode prog_14_method_16_code 168 = .ok (.iload 7, 2) := by decide +kernel
theorem d_Mo_isFolding_170 : decode prog_14_method_16_code 170 = .ok (.iconst 1, 1) := by decide +kernel
theorem d_Mo_isFolding_171 : decode prog_14_method_16_code 171 = .ok (.iadd, 1) := by decide +kernel
theorem d_Mo_isFolding_172 : decode prog_14_method_16_code 172 = .ok (.iaload, 1) := by decide +kernel
theorem d_Mo_isFolding_173 : decode prog_14_method_16_code 173 = .ok (.iload 5, 2) := by decide +kernel
theorem d_Mo_isFolding_175 : decode prog_14_method_16_code 175 = .ok (.if_icmp .le 21, 3) := by decide +kernel
theorem d_Mo_isFolding_178 : decode prog_14_method_16_code 178 = .ok (.aload_n 0, 1) := by decide +kernel
theorem d_Mo_isFolding_179 : decode prog_14_method_16_code 179 = .ok (.getfield 49, 3) := by decide +kernel
theorem d_Mo_isFolding_182 : decode prog_14_method_16_code 182 = .ok (.iload 7, 2) := by decide +kernel
theorem d_Mo_isFolding_184 : decode prog_14_method_16_code 184 = .ok (.iconst 1, 1) := by decide +kernel
theorem d_Mo_isFolding_185 : decode prog_14_method_16_code 185 = .ok (.iadd, 1) := by decide +kernel
theorem d_Mo_isFolding_186 : decode prog_14_method_16_code 186 = .ok (.iaload, 1) := by decide +kernel
theorem d_Mo_isFolding_187 : decode prog_14_method_16_code 187 = .ok (.iload 6, 2) := by decide +kernel
theorem d_Mo_isFolding_189 : decode prog_14_method_16_code 189 = .ok (.if_icmp .ge 7, 3) := by decide +kernel
theorem d_Mo_isFolding_192 : decode prog_14_method_16_code 192 = .ok (.iconst 1, 1) := by decide +kernel
theorem d_Mo_isFolding_193 : decode prog_14_method_16_code 193 = .ok (.goto 4, 3) := by decide +kernel
theorem d_Mo_isFolding_196 : decode prog_14_method_16_code 196 = .ok (.iconst 0, 1) := by decide +kernel
theorem d_Mo_isFolding_197 : decode prog_14_method_16_code 197 = .ok (.istore 9, 2) := by decide +kernel
theorem d_Mo_isFolding_199 : decode prog_14_method_16_code 199 = .ok (.iload 8, 2) := by decide +kernel
theorem d_Mo_isFolding_201 : decode prog_14_method_16_code 201 = .ok (.iload 9, 2) := by decide +kernel
theorem d_Mo_isFolding_203 : decode prog_14_method_16_code 203 = .ok (.if_icmp .eq 17, 3) := by decide +kernel
theorem d_Mo_isFolding_206 : decode prog_14_method_16_code 206 = .ok (.aload_n 0, 1) := by decide +kernel
theorem d_Mo_isFolding_207 : decode prog_14_method_16_code 207 = .ok (.iload 4, 2) := by decide +kernel
theorem d_Mo_isFolding_209 : decode prog_14_method_16_code 209 = .ok (.putfield 130, 3) := by decide +kernel
theorem d_Mo_isFolding_212 : decode prog_14_method_16_code 212 = .ok (.aload_n 0, 1) := by decide +kernel
theorem d_Mo_isFolding_213 : decode prog_14_method_16_code 213 = .ok (.iload 7, 2) := by decide +kernel
theorem d_Mo_isFolding_215 : decode prog_14_method_16_code 215 = .ok (.putfield 133, 3) := by decide +kernel
theorem d_Mo_isFolding_218 : decode prog_14_method_16_code 218 = .ok (.iconst 0, 1) := by decide +kernel
theorem d_Mo_isFolding_219 : decode prog_14_method_16_code 219 = .ok (.ireturn, 1) := by decide +kernel
theorem d_Mo_isFolding_220 : decode prog_14_method_16_code 220 = .ok (.iinc 7 2, 3) := by decide +kernel
theorem d_Mo_isFolding_223 : decode prog_14_method_16_code 223 = .ok (.goto (-98), 3) := by decide +kernel
theorem d_Mo_isFolding_226 : decode prog_14_method_16_code 226 = .ok (.iinc 4 1, 3) := by decide +kernel
theorem d_Mo_isFolding_229 : decode prog_14_method_16_code 229 = .ok (.goto (-198), 3) := by decide +kernel
theorem d_Mo_isFolding_232 : decode prog_14_method_16_code 232 = .ok (.aload_n 0, 1) := by decide +kernel
theorem d_Mo_isFolding_233 : decode prog_14_method_16_code 233 = .ok (.ldc 136, 2) := by decide +kernel
theorem d_Mo_isFolding_235 : decode prog_14_method_16_code 235 = .ok (.putfield 130, 3) := by decide +kernel
theorem d_Mo_isFolding_238 : decode prog_14_method_16_code 238 = .ok (.aload_n 0, 1) := by decide +kernel
theorem d_Mo_isFolding_239 : decode prog_14_method_16_code 239 = .ok (.ldc 136, 2) := by decide +kernel
theorem d_Mo_isFolding_241 : decode prog_14_method_16_code 241 = .ok (.putfield 133, 3) := by decide +kernel
theorem d_Mo_isFolding_244 : decode prog_14_method_16_code 244 = .ok (.iconst 1, 1) := by decide +kernel
theorem d_Mo_isFolding_245 : decode prog_14_method_16_code 245 = .ok (.ireturn, 1) := by decide +kernel
theorem d_Mo_copyThing_0 : decode prog_14_method_17_code 0 = .ok (.aload_n 0, 1) := by decide +kernel
theorem d_Mo_copyThing_1 : decode prog_14_method_17_code 1 = .ok (.getfield 22, 3) := by decide +kernel
theorem d_Mo_copyThing_4 : decode prog_14_method_17_code 4 = .ok (.iload_n 1, 1) := by decide +kernel
theorem d_Mo_copyThing_5 : decode prog_14_method_17_code 5 = .ok (.aload_n 0, 1) := by decide +kernel
theorem d_Mo_copyThing_6 : decode prog_14_method_17_code 6 = .ok (.getfield 22, 3) := by decide +kernel
theorem d_Mo_copyThing_9 : decode prog_14_method_17_code 9 = .ok (.iload_n 2, 1) := by decide +kernel
theorem d_Mo_copyThing_10 : decode prog_14_method_17_code 10 = .ok (.iaload, 1) := by decide +kernel
theorem d_Mo_copyThing_11 : decode prog_14_method_17_code 11 = .ok (.iastore, 1) := by decide +kernel
theorem d_Mo_copyThing_12 : decode prog_14_method_17_code 12 = .ok (.aload_n 0, 1) := by decide +kernel
theorem d_Mo_copyThing_13 : decode prog_14_method_17_code 13 = .ok (.getfield 25, 3) := by decide +kernel
theorem d_Mo_copyThing_16 : decode prog_14_method_17_code 16 = .ok (.iload_n 1, 1) := by decide +kernel
theorem d_Mo_copyThing_17 : decode prog_14_method_17_code 17 = .ok (.aload_n 0, 1) := by decide +kernel
theorem d_Mo_copyThing_18 : decode prog_14_method_17_code 18 = .ok (.getfield 25, 3) := by decide +kernel
theorem d_Mo_copyThing_21 : decode prog_14_method_17_code 21 = .ok (.iload_n 2, 1) := by decide +kernel
theorem d_Mo_copyThing_22 : decode prog_14_method_17_code 22 = .ok (.iaload, 1) := by decide +kernel
theorem d_Mo_copyThing_23 : decode prog_14_method_17_code 23 = .ok (.iastore, 1) := by decide +kernel
theorem d_Mo_copyThing_24 : decode prog_14_method_17_code 24 = .ok (.iconst 0, 1) := by decide +kernel
theorem d_Mo_copyThing_25 : decode prog_14_method_17_code 25 = .ok (.istore_n 3, 1) := by decide +kernel
theorem d_Mo_copyThing_26 : decode prog_14_method_17_code 26 = .ok (.iload_n 3, 1) := by decide +kernel
theorem d_Mo_copyThing_27 : decode prog_14_method_17_code 27 = .ok (.bipush 40, 2) := by decide +kernel
theorem d_Mo_copyThing_29 : decode prog_14_method_17_code 29 = .ok (.if_icmp .ge 97, 3) := by decide +kernel
theorem d_Mo_copyThing_32 : decode prog_14_method_17_code 32 = .ok (.aload_n 0, 1) := by decide +kernel
theorem d_Mo_copyThing_33 : decode prog_14_method_17_code 33 = .ok (.getfield 28, 3) := by decide +kernel
theorem d_Mo_copyThing_36 : decode prog_14_method_17_code 36 = .ok (.bipush 40, 2) := by decide +kernel
theorem d_Mo_copyThing_38 : decode prog_14_method_17_code 38 = .ok (.iload_n 1, 1) := by decide +kernel
theorem d_Mo_copyThing_39 : decode prog_14_method_17_code 39 = .ok (.imul, 1) := by decide +kernel
theorem d_Mo_copyThing_40 : decode prog_14_method_17_code 40 = .ok (.iload_n 3, 1) := by decide +kernel
theorem d_Mo_copyThing_41 : decode prog_14_method_17_code 41 = .ok (.iadd, 1) := by decide +kernel
theorem d_Mo_copyThing_42 : decode prog_14_method_17_code 42 = .ok (.aload_n 0, 1) := by decide +kernel
theorem d_Mo_copyThing_43 : decode prog_14_method_17_code 43 = .ok (.getfield 28, 3) := by decide +kernel
theorem d_Mo_copyThing_46 : decode prog_14_method_17_code 46 = .ok (.bipush 40, 2) := by decide +kernel
theorem d_Mo_copyThing_48 : decode prog_14_method_17_code 48 = .ok (.iload_n 2, 1) := by decide +kernel
theorem d_Mo_copyThing_49 : decode prog_14_method_17_code 49 = .ok (.imul, 1) := by decide +kernel
theorem d_Mo_copyThing_50 : decode prog_14_method_17_code 50 = .ok (.iload_n 3, 1) := by decide +kernel
theorem d_Mo_copyThing_51 : decode prog_14_method_17_code 51 = .ok (.iadd, 1) := by decide +kernel
theorem d_Mo_copyThing_52 : decode prog_14_method_17_code 52 = .ok (.iaload, 1) := by decide +kernel
theorem d_Mo_copyThing_53 : decode prog_14_method_17_code 53 = .ok (.iastore, 1) := by decide +kernel
theorem d_Mo_copyThing_54 : decode prog_14_method_17_code 54 = .ok (.aload_n 0, 1) := by decide +kernel
theorem d_Mo_copyThing_55 : decode prog_14_method_17_code 55 = .ok (.getfield 31, 3) := by decide +kernel
theorem d_Mo_copyThing_58 : decode prog_14_method_17_code 58 = .ok (.bipush 40, 2) := by decide +kernel
theorem d_Mo_copyThing_60 : decode prog_14_method_17_code 60 = .ok (.iload_n 1, 1) := by decide +kernel
theorem d_Mo_copyThing_61 : decode prog_14_method_17_code 61 = .ok (.imul, 1) := by decide +kernel
theorem d_Mo_copyThing_62 : decode prog_14_method_17_code 62 = .ok (.iload_n 3, 1) := by decide +kernel
theorem d_Mo_copyThing_63 : decode prog_14_method_17_code 63 = .ok (.iadd, 1) := by decide +kernel
theorem d_Mo_copyThing_64 : decode prog_14_method_17_code 64 = .ok (.aload_n 0, 1) := by decide +kernel
theorem d_Mo_copyThing_65 : decode prog_14_method_17_code 65 = .ok (.getfield 31, 3) := by decide +kernel
theorem d_Mo_copyThing_68 : decode prog_14_method_17_code 68 = .ok (.bipush 40, 2) := by decide +kernel
theorem d_Mo_copyThing_70 : decode prog_14_method_17_code 70 = .ok (.iload_n 2, 1) := by decide +kernel
theorem d_Mo_copyThing_71 : decode prog_14_method_17_code 71 = .ok (.imul, 1) := by decide +kernel
theorem d_Mo_copyThing_72 : decode prog_14_method_17_code 72 = .ok (.iload_n 3, 1) := by decide +kernel
theorem d_Mo_copyThing_73 : decode prog_14_method_17_code 73 = .ok (.iadd, 1) := by decide +kernel
theorem d_Mo_copyThing_74 : decode prog_14_method_17_code 74 = .ok (.iaload, 1) := by decide +kernel
theorem d_Mo_copyThing_75 : decode prog_14_method_17_code 75 = .ok (.iastore, 1) := by decide +kernel
theorem d_Mo_copyThing_76 : decode prog_14_method_17_code 76 = .ok (.aload_n 0, 1) := by decide +kernel
theorem d_Mo_copyThing_77 : decode prog_14_method_17_code 77 = .ok (.getfield 34, 3) := by decide +kernel
theorem d_Mo_copyThing_80 : decode prog_14_method_17_code 80 = .ok (.bipush 40, 2) := by decide +kernel
theorem d_Mo_copyThing_82 : decode prog_14_method_17_code 82 = .ok (.iload_n 1, 1) := by decide +kernel
theorem d_Mo_copyThing_83 : decode prog_14_method_17_code 83 = .ok (.imul, 1) := by decide +kernel
theorem d_Mo_copyThing_84 : decode prog_14_method_17_code 84 = .ok (.iload_n 3, 1) := by decide +kernel
theorem d_Mo_copyThing_85 : decode prog_14_method_17_code 85 = .ok (.iadd, 1) := by decide +kernel
theorem d_Mo_copyThing_86 : decode prog_14_method_17_code 86 = .ok (.aload_n 0, 1) := by decide +kernel
theorem d_Mo_copyThing_87 : decode prog_14_method_17_code 87 = .ok (.getfield 34, 3) := by decide +kernel
theorem d_Mo_copyThing_90 : decode prog_14_method_17_code 90 = .ok (.bipush 40, 2) := by decide +kernel
theorem d_Mo_copyThing_92 : decode prog_14_method_17_code 92 = .ok (.iload_n 2, 1) := by decide +kernel
theorem d_Mo_copyThing_93 : decode prog_14_method_17_code 93 = .ok (.imul, 1) := by decide +kernel
theorem d_Mo_copyThing_94 : decode prog_14_method_17_code 94 = .ok (.iload_n 3, 1) := by decide +kernel
theorem d_Mo_copyThing_95 : decode prog_14_method_17_code 95 = .ok (.iadd, 1) := by decide +kernel
theorem d_Mo_copyThing_96 : decode prog_14_method_17_code 96 = .ok (.iaload, 1) := by decide +kernel
theorem d_Mo_copyThing_97 : decode prog_14_method_17_code 97 = .ok (.iastore, 1) := by decide +kernel
theorem d_Mo_copyThing_98 : decode prog_14_method_17_code 98 = .ok (.aload_n 0, 1) := by decide +kernel
theorem d_Mo_copyThing_99 : decode prog_14_method_17_code 99 = .ok (.getfield 37, 3) := by decide +kernel
theorem d_Mo_copyThing_102 : decode prog_14_method_17_code 102 = .ok (.bipush 40, 2) := by decide +kernel
theorem d_Mo_copyThing_104 : decode prog_14_method_17_code 104 = .ok (.iload_n 1, 1) := by decide +kernel
theorem d_Mo_copyThing_105 : decode prog_14_method_17_code 105 = .ok (.imul, 1) := by decide +kernel
theorem d_Mo_copyThing_106 : decode prog_14_method_17_code 106 = .ok (.iload_n 3, 1) := by decide +kernel
theorem d_Mo_copyThing_107 : decode prog_14_method_17_code 107 = .ok (.iadd, 1) := by decide +kernel
theorem d_Mo_copyThing_108 : decode prog_14_method_17_code 108 = .ok (.aload_n 0, 1) := by decide +kernel
theorem d_Mo_copyThing_109 : decode prog_14_method_17_code 109 = .ok (.getfield 37, 3) := by decide +kernel
theorem d_Mo_copyThing_112 : decode prog_14_method_17_code 112 = .ok (.bipush 40, 2) := by decide +kernel
theorem d_Mo_copyThing_114 : decode prog_14_method_17_code 114 = .ok (.iload_n 2, 1) := by decide +kernel
theorem d_Mo_copyThing_115 : decode prog_14_method_17_code 115 = .ok (.imul, 1) := by decide +kernel
theorem d_Mo_copyThing_116 : decode prog_14_method_17_code 116 = .ok (.iload_n 3, 1) := by decide +kernel
theorem d_Mo_copyThing_117 : decode prog_14_method_17_code 117 = .ok (.iadd, 1) := by decide +kernel
theorem d_Mo_copyThing_118 : decode prog_14_method_17_code 118 = .ok (.iaload, 1) := by decide +kernel
theorem d_Mo_copyThing_119 : decode prog_14_method_17_code 119 = .ok (.iastore, 1) := by decide +kernel
theorem d_Mo_copyThing_120 : decode prog_14_method_17_code 120 = .ok (.iinc 3 1, 3) := by decide +kernel
theorem d_Mo_copyThing_123 : decode prog_14_method_17_code 123 = .ok (.goto (-97), 3) := by decide +kernel
theorem d_Mo_copyThing_126 : decode prog_14_method_17_code 126 = .ok (.return_, 1) := by decide +kernel
theorem d_Mo_land_0 : decode prog_14_method_21_code 0 = .ok (.iload_n 1, 1) := by decide +kernel
theorem d_Mo_land_1 : decode prog_14_method_21_code 1 = .ok (.invokestatic 152, 3) := by decide +kernel
theorem d_Mo_land_4 : decode prog_14_method_21_code 4 = .ok (.ifCond .eq 17, 3) := by decide +kernel
theorem d_Mo_land_7 : decode prog_14_method_21_code 7 = .ok (.iload_n 2, 1) := by decide +kernel
theorem d_Mo_land_8 : decode prog_14_method_21_code 8 = .ok (.invokestatic 152, 3) := by decide +kernel
theorem d_Mo_land_11 : decode prog_14_method_21_code 11 = .ok (.ifCond .eq 10, 3) := by decide +kernel
theorem d_Mo_land_14 : decode prog_14_method_21_code 14 = .ok (.iload_n 3, 1) := by decide +kernel
theorem d_Mo_land_15 : decode prog_14_method_21_code 15 = .ok (.invokestatic 152, 3) := by decide +kernel
theorem d_Mo_land_18 : decode prog_14_method_21_code 18 = .ok (.ifCond .ne 6, 3) := by decide +kernel
theorem d_Mo_land_21 : decode prog_14_method_21_code 21 = .ok (.ldc 112, 2) := by decide +kernel
theorem d_Mo_land_23 : decode prog_14_method_21_code 23 = .ok (.ireturn, 1) := by decide +kernel
theorem d_Mo_land_24 : decode prog_14_method_21_code 24 = .ok (.aload_n 0, 1) := by decide +kernel
theorem d_Mo_land_25 : decode prog_14_method_21_code 25 = .ok (.iload_n 2, 1) := by decide +kernel
theorem d_Mo_land_26 : decode prog_14_method_21_code 26 = .ok (.iconst 2, 1) := by decide +kernel
theorem d_Mo_land_27 : decode prog_14_method_21_code 27 = .ok (.invokevirtual 165, 3) := by decide +kernel
theorem d_Mo_land_30 : decode prog_14_method_21_code 30 = .ok (.istore 4, 2) := by decide +kernel
theorem d_Mo_land_32 : decode prog_14_method_21_code 32 = .ok (.iload 4, 2) := by decide +kernel
theorem d_Mo_land_34 : decode prog_14_method_21_code 34 = .ok (.ifCond .ne 12, 3) := by decide +kernel
theorem d_Mo_land_37 : decode prog_14_method_21_code 37 = .ok (.aload_n 0, 1) := by decide +kernel
theorem d_Mo_land_38 : decode prog_14_method_21_code 38 = .ok (.iload_n 3, 1) := by decide +kernel
theorem d_Mo_land_39 : decode prog_14_method_21_code 39 = .ok (.iconst 2, 1) := by decide +kernel
theorem d_Mo_land_40 : decode prog_14_method_21_code 40 = .ok (.invokevirtual 165, 3) := by decide +kernel
theorem d_Mo_land_43 : decode prog_14_method_21_code 43 = .ok (.goto 5, 3) := by decide +kernel
theorem d_Mo_land_46 : decode prog_14_method_21_code 46 = .ok (.iload 4, 2) := by decide +kernel
theorem d_Mo_land_48 : decode prog_14_method_21_code 48 = .ok (.istore 4, 2) := by decide +kernel
theorem d_Mo_land_50 : decode prog_14_method_21_code 50 = .ok (.iload 4, 2) := by decide +kernel
theorem d_Mo_land_52 : decode prog_14_method_21_code 52 = .ok (.ifCond .eq 6, 3) := by decide +kernel
theorem d_Mo_land_55 : decode prog_14_method_21_code 55 = .ok (.iload 4, 2) := by decide +kernel
theorem d_Mo_land_57 : decode prog_14_method_21_code 57 = .ok (.ireturn, 1) := by decide +kernel
theorem d_Mo_land_58 : decode prog_14_method_21_code 58 = .ok (.aload_n 0, 1) := by decide +kernel
theorem d_Mo_land_59 : decode prog_14_method_21_code 59 = .ok (.getfield 25, 3) := by decide +kernel
theorem d_Mo_land_62 : decode prog_14_method_21_code 62 = .ok (.iload_n 2, 1) := by decide +kernel
theorem d_Mo_land_63 : decode prog_14_method_21_code 63 = .ok (.iaload, 1) := by decide +kernel
theorem d_Mo_land_64 : decode prog_14_method_21_code 64 = .ok (.aload_n 0, 1) := by decide +kernel
theorem d_Mo_land_65 : decode prog_14_method_21_code 65 = .ok (.getfield 25, 3) := by decide +kernel
theorem d_Mo_land_68 : decode prog_14_method_21_code 68 = .ok (.iload_n 3, 1) := by decide +kernel
theorem d_Mo_land_69 : decode prog_14_method_21_code 69 = .ok (.iaload, 1) := by decide +kernel
theorem d_Mo_land_70 : decode prog_14_method_21_code 70 = .ok (.if_icmp .eq 6, 3) := by decide +kernel
theorem d_Mo_land_73 : decode prog_14_method_21_code 73 = .ok (.ldc 112, 2) := by decide +kernel
theorem d_Mo_land_75 : decode prog_14_method_21_code 75 = .ok (.ireturn, 1) := by decide +kernel
theorem d_Mo_land_76 : decode prog_14_method_21_code 76 = .ok (.aload_n 0, 1) := by decide +kernel
theorem d_Mo_land_77 : decode prog_14_method_21_code 77 = .ok (.getfield 25, 3) := by decide +kernel
theorem d_Mo_land_80 : decode prog_14_method_21_code 80 = .ok (.bipush 10, 2) := by decide +kernel
theorem d_Mo_land_82 : decode prog_14_method_21_code 82 = .ok (.aload_n 0, 1) := by decide +kernel
theorem d_Mo_land_83 : decode prog_14_method_21_code 83 = .ok (.getfield 25, 3) := by decide +kernel
theorem d_Mo_land_86 : decode prog_14_method_21_code 86 = .ok (.iload_n 2, 1) := by decide +kernel
theorem d_Mo_land_87 : decode prog_14_method_21_code 87 = .ok (.iaload, 1) := by decide +kernel
theorem d_Mo_land_88 : decode prog_14_method_21_code 88 = .ok (.iastore, 1) := by decide +kernel
theorem d_Mo_land_89 : decode prog_14_method_21_code 89 = .ok (.iconst 0, 1) := by decide +kernel
theorem d_Mo_land_90 : decode prog_14_method_21_code 90 = .ok (.istore 5, 2) := by decide +kernel
theorem d_Mo_land_92 : decode prog_14_method_21_code 92 = .ok (.iload 5, 2) := by decide +kernel
theorem d_Mo_land_94 : decode prog_14_method_21_code 94 = .ok (.bipush 40, 2) := by decide +kernel
theorem d_Mo_land_96 : decode prog_14_method_21_code 96 = .ok (.if_icmp .ge 55, 3) := by decide +kernel
theorem d_Mo_land_99 : decode prog_14_method_21_code 99 = .ok (.aload_n 0, 1) := by decide +kernel
theorem d_Mo_land_100 : decode prog_14_method_21_code 100 = .ok (.getfield 28, 3) := by decide +kernel
theorem d_Mo_land_103 : decode prog_14_method_21_code 103 = .ok (.sipush 400, 3) := by decide +kernel
theorem d_Mo_land_106 : decode prog_14_method_21_code 106 = .ok (.iload 5, 2) := by decide +kernel
theorem d_Mo_land_108 : decode prog_14_method_21_code 108 = .ok (.iadd, 1) := by decide +kernel
theorem d_Mo_land_109 : decode prog_14_method_21_code 109 = .ok (.aload_n 0, 1) := by decide +kernel
theorem d_Mo_land_110 : decode prog_14_method_21_code 110 = .ok (.getfield 28, 3) := by decide +kernel
theorem d_Mo_land_113 : decode prog_14_method_21_code 113 = .ok (.bipush 40, 2) := by decide +kernel
theorem d_Mo_land_115 : decode prog_14_method_21_code 115 = .ok (.iload_n 2, 1) := by decide +kernel
theorem d_Mo_land_116 : decode prog_14_method_21_code 116 = .ok (.imul, 1) := by decide +kernel
theorem d_Mo_land_117 : decode prog_14_method_21_code 117 = .ok (.iload 5, 2) := by decide +kernel
theorem d_Mo_land_119 : decode prog_14_method_21_code 119 = .ok (.iadd, 1) := by decide +kernel
theorem d_Mo_land_120 : decode prog_14_method_21_code 120 = .ok (.iaload, 1) := by decide +kernel
theorem d_Mo_land_121 : decode prog_14_method_21_code 121 = .ok (.iastore, 1) := by decide +kernel
theorem d_Mo_land_122 : decode prog_14_method_21_code 122 = .ok (.aload_n 0, 1) := by decide +kernel
theorem d_Mo_land_123 : decode prog_14_method_21_code 123 = .ok (.getfield 31, 3) := by decide +kernel
theorem d_Mo_land_126 : decode prog_14_method_21_code 126 = .ok (.sipush 400, 3) := by decide +kernel
theorem d_Mo_land_129 : decode prog_14_method_21_code 129 = .ok (.iload 5, 2) := by decide +kernel
theorem d_Mo_land_131 : decode prog_14_method_21_code 131 = .ok (.iadd, 1) := by decide +kernel
theorem d_Mo_land_132 : decode prog_14_method_21_code 132 = .ok (.aload_n 0, 1) := by decide +kernel
theorem d_Mo_land_133 : decode prog_14_method_21_code 133 = .ok (.getfield 28, 3) := by decide +kernel
theorem d_Mo_land_136 : decode prog_14_method_21_code 136 = .ok (.bipush 40, 2) := by decide +kernel
theorem d_Mo_land_138 : decode prog_14_method_21_code 138 = .ok (.iload_n 3, 1) := by decide +kernel
theorem d_Mo_land_139 : decode prog_14_method_21_code 139 = .ok (.imul, 1) := by decide +kernel
theorem d_Mo_land_140 : decode prog_14_method_21_code 140 = .ok (.iload 5, 2) := by decide +kernel
theorem d_Mo_land_142 : decode prog_14_method_21_code 142 = .ok (.iadd, 1) := by decide +kernel
theorem d_Mo_land_143 : decode prog_14_method_21_code 143 = .ok (.iaload, 1) := by decide +kernel
theorem d_Mo_land_144 : decode prog_14_method_21_code 144 = .ok (.iastore, 1) := by decide +kernel
theorem d_Mo_land_145 : decode prog_14_method_21_code 145 = .ok (.iinc 5 1, 3) := by decide +kernel
theorem d_Mo_land_148 : decode prog_14_method_21_code 148 = .ok (.goto (-56), 3) := by decide +kernel
theorem d_Mo_land_151 : decode prog_14_method_21_code 151 = .ok (.aload_n 0, 1) := by decide +kernel
theorem d_Mo_land_152 : decode prog_14_method_21_code 152 = .ok (.iload_n 1, 1) := by decide +kernel
theorem d_Mo_land_153 : decode prog_14_method_21_code 153 = .ok (.iconst 5, 1) := by decide +kernel
theorem d_Mo_land_154 : decode prog_14_method_21_code 154 = .ok (.invokevirtual 157, 3) := by decide +kernel
theorem d_Mo_land_157 : decode prog_14_method_21_code 157 = .ok (.ireturn, 1) := by decide +kernel
theorem d_Mo_refusal_0 : decode prog_14_method_20_code 0 = .ok (.aload_n 0, 1) := by decide +kernel
theorem d_Mo_refusal_1 : decode prog_14_method_20_code 1 = .ok (.getfield 22, 3) := by decide +kernel
theorem d_Mo_refusal_4 : decode prog_14_method_20_code 4 = .ok (.iload_n 1, 1) := by decide +kernel
theorem d_Mo_refusal_5 : decode prog_14_method_20_code 5 = .ok (.iaload, 1) := by decide +kernel
theorem d_Mo_refusal_6 : decode prog_14_method_20_code 6 = .ok (.ifCond .ne 9, 3) := by decide +kernel
theorem d_Mo_refusal_9 : decode prog_14_method_20_code 9 = .ok (.aload_n 0, 1) := by decide +kernel
theorem d_Mo_refusal_10 : decode prog_14_method_20_code 10 = .ok (.iconst 1, 1) := by decide +kernel
theorem d_Mo_refusal_11 : decode prog_14_method_20_code 11 = .ok (.invokevirtual 113, 3) := by decide +kernel
theorem d_Mo_refusal_14 : decode prog_14_method_20_code 14 = .ok (.ireturn, 1) := by decide +kernel
theorem d_Mo_refusal_15 : decode prog_14_method_20_code 15 = .ok (.aload_n 0, 1) := by decide +kernel
theorem d_Mo_refusal_16 : decode prog_14_method_20_code 16 = .ok (.getfield 22, 3) := by decide +kernel
theorem d_Mo_refusal_19 : decode prog_14_method_20_code 19 = .ok (.iload_n 1, 1) := by decide +kernel
theorem d_Mo_refusal_20 : decode prog_14_method_20_code 20 = .ok (.iaload, 1) := by decide +kernel
theorem d_Mo_refusal_21 : decode prog_14_method_20_code 21 = .ok (.iload_n 2, 1) := by decide +kernel
theorem d_Mo_refusal_22 : decode prog_14_method_20_code 22 = .ok (.invokestatic 161, 3) := by decide +kernel
theorem d_Mo_refusal_25 : decode prog_14_method_20_code 25 = .ok (.ifCond .eq 7, 3) := by decide +kernel
theorem d_Mo_refusal_28 : decode prog_14_method_20_code 28 = .ok (.iconst 0, 1) := by decide +kernel
theorem d_Mo_refusal_29 : decode prog_14_method_20_code 29 = .ok (.goto 8, 3) := by decide +kernel
theorem d_Mo_refusal_32 : decode prog_14_method_20_code 32 = .ok (.aload_n 0, 1) := by decide +kernel
theorem d_Mo_refusal_33 : decode prog_14_method_20_code 33 = .ok (.iconst 3, 1) := by decide +kernel
theorem d_Mo_refusal_34 : decode prog_14_method_20_code 34 = .ok (.invokevirtual 113, 3) := by decide +kernel
theorem d_Mo_refusal_37 : decode prog_14_method_20_code 37 = .ok (.ireturn, 1) := by decide +kernel
theorem d_Mo_isOf_0 : decode prog_14_method_11_code 0 = .ok (.iload_n 0, 1) := by decide +kernel
theorem d_Mo_isOf_1 : decode prog_14_method_11_code 1 = .ok (.iload_n 1, 1) := by decide +kernel
theorem d_Mo_isOf_2 : decode prog_14_method_11_code 2 = .ok (.if_icmp .eq 59, 3) := by decide +kernel
theorem d_Mo_isOf_5 : decode prog_14_method_11_code 5 = .ok (.iload_n 0, 1) := by decide +kernel
theorem d_Mo_isOf_6 : decode prog_14_method_11_code 6 = .ok (.ifCond .le 59, 3) := by decide +kernel
theorem d_Mo_isOf_9 : decode prog_14_method_11_code 9 = .ok (.iload_n 1, 1) := by decide +kernel
theorem d_Mo_isOf_10 : decode prog_14_method_11_code 10 = .ok (.ifCond .eq 51, 3) := by decide +kernel
theorem d_Mo_isOf_13 : decode prog_14_method_11_code 13 = .ok (.iload_n 1, 1) := by decide +kernel
theorem d_Mo_isOf_14 : decode prog_14_method_11_code 14 = .ok (.iconst 1, 1) := by decide +kernel
theorem d_Mo_isOf_15 : decode prog_14_method_11_code 15 = .ok (.if_icmp .ne 8, 3) := by decide +kernel
theorem d_Mo_isOf_18 : decode prog_14_method_11_code 18 = .ok (.iload_n 0, 1) := by decide +kernel
theorem d_Mo_isOf_19 : decode prog_14_method_11_code 19 = .ok (.iconst 5, 1) := by decide +kernel
theorem d_Mo_isOf_20 : decode prog_14_method_11_code 20 = .ok (.if_icmp .lt 41, 3) := by decide +kernel
theorem d_Mo_isOf_23 : decode prog_14_method_11_code 23 = .ok (.iload_n 1, 1) := by decide +kernel
theorem d_Mo_isOf_24 : decode prog_14_method_11_code 24 = .ok (.iconst 2, 1) := by decide +kernel
theorem d_Mo_isOf_25 : decode prog_14_method_11_code 25 = .ok (.if_icmp .ne 13, 3) := by decide +kernel
theorem d_Mo_isOf_28 : decode prog_14_method_11_code 28 = .ok (.iload_n 0, 1) := by decide +kernel
theorem d_Mo_isOf_29 : decode prog_14_method_11_code 29 = .ok (.iconst 3, 1) := by decide +kernel
theorem d_Mo_isOf_30 : decode prog_14_method_11_code 30 = .ok (.if_icmp .eq 31, 3) := by decide +kernel
theorem d_Mo_isOf_33 : decode prog_14_method_11_code 33 = .ok (.iload_n 0, 1) := by decide +kernel
theorem d_Mo_isOf_34 : decode prog_14_method_11_code 34 = .ok (.iconst 4, 1) := by decide +kernel
theorem d_Mo_isOf_35 : decode prog_14_method_11_code 35 = .ok (.if_icmp .eq 26, 3) := by decide +kernel
theorem d_Mo_isOf_38 : decode prog_14_method_11_code 38 = .ok (.iload_n 1, 1) := by decide +kernel
theorem d_Mo_isOf_39 : decode prog_14_method_11_code 39 = .ok (.iconst 5, 1) := by decide +kernel
theorem d_Mo_isOf_40 : decode prog_14_method_11_code 40 = .ok (.if_icmp .ne 9, 3) := by decide +kernel
theorem d_Mo_isOf_43 : decode prog_14_method_11_code 43 = .ok (.iload_n 0, 1) := by decide +kernel
theorem d_Mo_isOf_44 : decode prog_14_method_11_code 44 = .ok (.bipush 6, 2) := by decide +kernel
theorem d_Mo_isOf_46 : decode prog_14_method_11_code 46 = .ok (.if_icmp .eq 15, 3) := by decide +kernel
theorem d_Mo_isOf_49 : decode prog_14_method_11_code 49 = .ok (.iload_n 1, 1) := by decide +kernel
theorem d_Mo_isOf_50 : decode prog_14_method_11_code 50 = .ok (.bipush 7, 2) := by decide +kernel
theorem d_Mo_isOf_52 : decode prog_14_method_11_code 52 = .ok (.if_icmp .ne 13, 3) := by decide +kernel
theorem d_Mo_isOf_55 : decode prog_14_method_11_code 55 = .ok (.iload_n 0, 1) := by decide +kernel
theorem d_Mo_isOf_56 : decode prog_14_method_11_code 56 = .ok (.bipush 8, 2) := by decide +kernel
theorem d_Mo_isOf_58 : decode prog_14_method_11_code 58 = .ok (.if_icmp .ne 7, 3) := by decide +kernel
theorem d_Mo_isOf_61 : decode prog_14_method_11_code 61 = .ok (.iconst 1, 1) := by decide +kernel
theorem d_Mo_isOf_62 : decode prog_14_method_11_code 62 = .ok (.goto 4, 3) := by decide +kernel
theorem d_Mo_isOf_65 : decode prog_14_method_11_code 65 = .ok (.iconst 0, 1) := by decide +kernel
theorem d_Mo_isOf_66 : decode prog_14_method_11_code 66 = .ok (.ireturn, 1) := by decide +kernel
theorem d_Mo_strip_0 : decode prog_14_method_22_code 0 = .ok (.iload_n 1, 1) := by decide +kernel
theorem d_Mo_strip_1 : decode prog_14_method_22_code 1 = .ok (.invokestatic 152, 3) := by decide +kernel
theorem d_Mo_strip_4 : decode prog_14_method_22_code 4 = .ok (.ifCond .eq 23, 3) := by decide +kernel
theorem d_Mo_strip_7 : decode prog_14_method_22_code 7 = .ok (.iload_n 2, 1) := by decide +kernel
theorem d_Mo_strip_8 : decode prog_14_method_22_code 8 = .ok (.invokestatic 106, 3) := by decide +kernel
theorem d_Mo_strip_11 : decode prog_14_method_22_code 11 = .ok (.ifCond .eq 16, 3) := by decide +kernel
theorem d_Mo_strip_14 : decode prog_14_method_22_code 14 = .ok (.iload 4, 2) := by decide +kernel
theorem d_Mo_strip_16 : decode prog_14_method_22_code 16 = .ok (.i2l, 1) := by decide +kernel
theorem d_Mo_strip_17 : decode prog_14_method_22_code 17 = .ok (.lconst 1, 1) := by decide +kernel
theorem d_Mo_strip_18 : decode prog_14_method_22_code 18 = .ok (.ldc2_w 155, 3) := by decide +kernel
theorem d_Mo_strip_21 : decode prog_14_method_22_code 21 = .ok (.invokestatic 102, 3) := by decide +kernel
theorem d_Mo_strip_24 : decode prog_14_method_22_code 24 = .ok (.ifCond .ne 6, 3) := by decide +kernel
theorem d_Mo_strip_27 : decode prog_14_method_22_code 27 = .ok (.ldc 112, 2) := by decide +kernel
theorem d_Mo_strip_29 : decode prog_14_method_22_code 29 = .ok (.ireturn, 1) := by decide +kernel
theorem d_Mo_strip_30 : decode prog_14_method_22_code 30 = .ok (.aload_n 0, 1) := by decide +kernel
theorem d_Mo_strip_31 : decode prog_14_method_22_code 31 = .ok (.getfield 7, 3) := by decide +kernel
theorem d_Mo_strip_34 : decode prog_14_method_22_code 34 = .ok (.iload_n 2, 1) := by decide +kernel
theorem d_Mo_strip_35 : decode prog_14_method_22_code 35 = .ok (.iaload, 1) := by decide +kernel
theorem d_Mo_strip_36 : decode prog_14_method_22_code 36 = .ok (.ifCond .ne 9, 3) := by decide +kernel
theorem d_Mo_strip_39 : decode prog_14_method_22_code 39 = .ok (.aload_n 0, 1) := by decide +kernel
theorem d_Mo_strip_40 : decode prog_14_method_22_code 40 = .ok (.iconst 1, 1) := by decide +kernel
theorem d_Mo_strip_41 : decode prog_14_method_22_code 41 = .ok (.invokevirtual 113, 3) := by decide +kernel
theorem d_Mo_strip_44 : decode prog_14_method_22_code 44 = .ok (.ireturn, 1) := by decide +kernel
theorem d_Mo_strip_45 : decode prog_14_method_22_code 45 = .ok (.iload_n 3, 1) := by decide +kernel
theorem d_Mo_strip_46 : decode prog_14_method_22_code 46 = .ok (.ifCond .lt 20, 3) := by decide +kernel
theorem d_Mo_strip_49 : decode prog_14_method_22_code 49 = .ok (.iload_n 3, 1) := by decide +kernel
theorem d_Mo_strip_50 : decode prog_14_method_22_code 50 = .ok (.i2l, 1) := by decide +kernel
theorem d_Mo_strip_51 : decode prog_14_method_22_code 51 = .ok (.iload 4, 2) := by decide +kernel
theorem d_Mo_strip_53 : decode prog_14_method_22_code 53 = .ok (.i2l, 1) := by decide +kernel
theorem d_Mo_strip_54 : decode prog_14_method_22_code 54 = .ok (.ladd, 1) := by decide +kernel
theorem d_Mo_strip_55 : decode prog_14_method_22_code 55 = .ok (.aload_n 0, 1) := by decide +kernel
theorem d_Mo_strip_56 : decode prog_14_method_22_code 56 = .ok (.getfield 13, 3) := by decide +kernel
theorem d_Mo_strip_59 : decode prog_14_method_22_code 59 = .ok (.iload_n 2, 1) := by decide +kernel
theorem d_Mo_strip_60 : decode prog_14_method_22_code 60 = .ok (.iaload, 1) := by decide +kernel
theorem d_Mo_strip_61 : decode prog_14_method_22_code 61 = .ok (.i2l, 1) := by decide +kernel
theorem d_Mo_strip_62 : decode prog_14_method_22_code 62 = .ok (.lcmp, 1) := by decide +kernel
theorem d_Mo_strip_63 : decode prog_14_method_22_code 63 = .ok (.ifCond .le 9, 3) := by decide +kernel
theorem d_Mo_strip_66 : decode prog_14_method_22_code 66 = .ok (.aload_n 0, 1) := by decide +kernel
theorem d_Mo_strip_67 : decode prog_14_method_22_code 67 = .ok (.iconst 2, 1) := by decide +kernel
theorem d_Mo_strip_68 : decode prog_14_method_22_code 68 = .ok (.invokevirtual 113, 3) := by decide +kernel
theorem d_Mo_strip_71 : decode prog_14_method_22_code 71 = .ok (.ireturn, 1) := by decide +kernel
theorem d_Mo_strip_72 : decode prog_14_method_22_code 72 = .ok (.iconst 0, 1) := by decide +kernel
theorem d_Mo_strip_73 : decode prog_14_method_22_code 73 = .ok (.istore 5, 2) := by decide +kernel
theorem d_Mo_strip_75 : decode prog_14_method_22_code 75 = .ok (.iload 5, 2) := by decide +kernel
theorem d_Mo_strip_77 : decode prog_14_method_22_code 77 = .ok (.iload 4, 2) := by decide +kernel
theorem d_Mo_strip_79 : decode prog_14_method_22_code 79 = .ok (.if_icmp .ge 17, 3) := by decide +kernel
theorem d_Mo_strip_82 : decode prog_14_method_22_code 82 = .ok (.aload_n 0, 1) := by decide +kernel
theorem d_Mo_strip_83 : decode prog_14_method_22_code 83 = .ok (.getfield 52, 3) := by decide +kernel
theorem d_Mo_strip_86 : decode prog_14_method_22_code 86 = .ok (.iload 5, 2) := by decide +kernel
theorem d_Mo_strip_88 : decode prog_14_method_22_code 88 = .ok (.iconst 0, 1) := by decide +kernel
theorem d_Mo_strip_89 : decode prog_14_method_22_code 89 = .ok (.bastore, 1) := by decide +kernel
theorem d_Mo_strip_90 : decode prog_14_method_22_code 90 = .ok (.iinc 5 1, 3) := by decide +kernel
theorem d_Mo_strip_93 : decode prog_14_method_22_code 93 = .ok (.goto (-18), 3) := by decide +kernel
theorem d_Mo_strip_96 : decode prog_14_method_22_code 96 = .ok (.aload_n 0, 1) := by decide +kernel
theorem d_Mo_strip_97 : decode prog_14_method_22_code 97 = .ok (.getfield 25, 3) := by decide +kernel
theorem d_Mo_strip_100 : decode prog_14_method_22_code 100 = .ok (.bipush 10, 2) := by decide +kernel
theorem d_Mo_strip_102 : decode prog_14_method_22_code 102 = .ok (.iload 4, 2) := by decide +kernel
theorem d_Mo_strip_104 : decode prog_14_method_22_code 104 = .ok (.iastore, 1) := by decide +kernel
theorem d_Mo_strip_105 : decode prog_14_method_22_code 105 = .ok (.iconst 0, 1) := by decide +kernel
theorem d_Mo_strip_106 : decode prog_14_method_22_code 106 = .ok (.istore 5, 2) := by decide +kernel
theorem d_Mo_strip_108 : decode prog_14_method_22_code 108 = .ok (.iload 5, 2) := by decide +kernel
theorem d_Mo_strip_110 : decode prog_14_method_22_code 110 = .ok (.iload 4, 2) := by decide +kernel
theorem d_Mo_strip_112 : decode prog_14_method_22_code 112 = .ok (.if_icmp .ge 74, 3) := by decide +kernel
theorem d_Mo_strip_115 : decode prog_14_method_22_code 115 = .ok (.aload_n 0, 1) := by decide +kernel
theorem d_Mo_strip_116 : decode prog_14_method_22_code 116 = .ok (.getfield 16, 3) := by decide +kernel
theorem d_Mo_strip_119 : decode prog_14_method_22_code 119 = .ok (.bipush 100, 2) := by decide +kernel
theorem d_Mo_strip_121 : decode prog_14_method_22_code 121 = .ok (.iload_n 2, 1) := by decide +kernel
theorem d_Mo_strip_122 : decode prog_14_method_22_code 122 = .ok (.imul, 1) := by decide +kernel
theorem d_Mo_strip_123 : decode prog_14_method_22_code 123 = .ok (.iload_n 3, 1) := by decide +kernel
theorem d_Mo_strip_124 : decode prog_14_method_22_code 124 = .ok (.iadd, 1) := by decide +kernel
theorem d_Mo_strip_125 : decode prog_14_method_22_code 125 = .ok (.iload 5, 2) := by decide +kernel
theorem d_Mo_strip_127 : decode prog_14_method_22_code 127 = .ok (.iadd, 1) := by decide +kernel
theorem d_Mo_strip_128 : decode prog_14_method_22_code 128 = .ok (.iaload, 1) := by decide +kernel
theorem d_Mo_strip_129 : decode prog_14_method_22_code 129 = .ok (.istore 6, 2) := by decide +kernel
theorem d_Mo_strip_131 : decode prog_14_method_22_code 131 = .ok (.iload 6, 2) := by decide +kernel
theorem d_Mo_strip_133 : decode prog_14_method_22_code 133 = .ok (.i2l, 1) := by decide +kernel
theorem d_Mo_strip_134 : decode prog_14_method_22_code 134 = .ok (.lconst 0, 1) := by decide +kernel
theorem d_Mo_strip_135 : decode prog_14_method_22_code 135 = .ok (.iload 4, 2) := by decide +kernel
theorem d_Mo_strip_137 : decode prog_14_method_22_code 137 = .ok (.iconst 1, 1) := by decide +kernel
theorem d_Mo_strip_138 : decode prog_14_method_22_code 138 = .ok (.isub, 1) := by decide +kernel
theorem d_Mo_strip_139 : decode prog_14_method_22_code 139 = .ok (.i2l, 1) := by decide +kernel
theorem d_Mo_strip_140 : decode prog_14_method_22_code 140 = .ok (.invokestatic 102, 3) := by decide +kernel
theorem d_Mo_strip_143 : decode prog_14_method_22_code 143 = .ok (.ifCond .eq 13, 3) := by decide +kernel
theorem d_Mo_strip_146 : decode prog_14_method_22_code 146 = .ok (.aload_n 0, 1) := by decide +kernel
theorem d_Mo_strip_147 : decode prog_14_method_22_code 147 = .ok (.getfield 52, 3) := by decide +kernel
theorem d_Mo_strip_150 : decode prog_14_method_22_code 150 = .ok (.iload 6, 2) := by decide +kernel
theorem d_Mo_strip_152 : decode prog_14_method_22_code 152 = .ok (.baload, 1) := by decide +kernel
theorem d_Mo_strip_153 : decode prog_14_method_22_code 153 = .ok (.ifCond .eq 6, 3) := by decide +kernel
theorem d_Mo_strip_156 : decode prog_14_method_22_code 156 = .ok (.ldc 112, 2) := by decide +kernel
theorem d_Mo_strip_158 : decode prog_14_method_22_code 158 = .ok (.ireturn, 1) := by decide +kernel
theorem d_Mo_strip_159 : decode prog_14_method_22_code 159 = .ok (.aload_n 0, 1) := by decide +kernel
theorem d_Mo_strip_160 : decode prog_14_method_22_code 160 = .ok (.getfield 52, 3) := by decide +kernel
theorem d_Mo_strip_163 : decode prog_14_method_22_code 163 = .ok (.iload 6, 2) := by decide +kernel
theorem d_Mo_strip_165 : decode prog_14_method_22_code 165 = .ok (.iconst 1, 1) := by decide +kernel
theorem d_Mo_strip_166 : decode prog_14_method_22_code 166 = .ok (.bastore, 1) := by decide +kernel
theorem d_Mo_strip_167 : decode prog_14_method_22_code 167 = .ok (.aload_n 0, 1) := by decide +kernel
theorem d_Mo_strip_168 : decode prog_14_method_22_code 168 = .ok (.getfield 28, 3) := by decide +kernel
theorem d_Mo_strip_171 : decode prog_14_method_22_code 171 = .ok (.sipush 400, 3) := by decide +kernel
theorem d_Mo_strip_174 : decode prog_14_method_22_code 174 = .ok (.iload 5, 2) := by decide +kernel
theorem d_Mo_strip_176 : decode prog_14_method_22_code 176 = .ok (.iadd, 1) := by decide +kernel
theorem d_Mo_strip_177 : decode prog_14_method_22_code 177 = .ok (.iload 6, 2) := by decide +kernel
theorem d_Mo_strip_179 : decode prog_14_method_22_code 179 = .ok (.iastore, 1) := by decide +kernel
theorem d_Mo_strip_180 : decode prog_14_method_22_code 180 = .ok (.iinc 5 1, 3) := by decide +kernel
theorem d_Mo_strip_183 : decode prog_14_method_22_code 183 = .ok (.goto (-75), 3) := by decide +kernel
theorem d_Mo_strip_186 : decode prog_14_method_22_code 186 = .ok (.aload_n 0, 1) := by decide +kernel
theorem d_Mo_strip_187 : decode prog_14_method_22_code 187 = .ok (.iload_n 1, 1) := by decide +kernel
theorem d_Mo_strip_188 : decode prog_14_method_22_code 188 = .ok (.bipush 7, 2) := by decide +kernel
theorem d_Mo_strip_190 : decode prog_14_method_22_code 190 = .ok (.invokevirtual 157, 3) := by decide +kernel
theorem d_Mo_strip_193 : decode prog_14_method_22_code 193 = .ok (.ireturn, 1) := by decide +kernel
theorem d_Mo_nth_0 : decode prog_14_method_26_code 0 = .ok (.iload_n 1, 1) := by decide +kernel
theorem d_Mo_nth_1 : decode prog_14_method_26_code 1 = .ok (.invokestatic 152, 3) := by decide +kernel
theorem d_Mo_nth_4 : decode prog_14_method_26_code 4 = .ok (.ifCond .eq 15, 3) := by decide +kernel
theorem d_Mo_nth_7 : decode prog_14_method_26_code 7 = .ok (.iload_n 2, 1) := by decide +kernel
theorem d_Mo_nth_8 : decode prog_14_method_26_code 8 = .ok (.i2l, 1) := by decide +kernel
theorem d_Mo_nth_9 : decode prog_14_method_26_code 9 = .ok (.lconst 1, 1) := by decide +kernel
theorem d_Mo_nth_10 : decode prog_14_method_26_code 10 = .ok (.ldc2_w 175, 3) := by decide +kernel
theorem d_Mo_nth_13 : decode prog_14_method_26_code 13 = .ok (.invokestatic 102, 3) := by decide +kernel
theorem d_Mo_nth_16 : decode prog_14_method_26_code 16 = .ok (.ifCond .ne 6, 3) := by decide +kernel
theorem d_Mo_nth_19 : decode prog_14_method_26_code 19 = .ok (.ldc 112, 2) := by decide +kernel
theorem d_Mo_nth_21 : decode prog_14_method_26_code 21 = .ok (.ireturn, 1) := by decide +kernel
theorem d_Mo_nth_22 : decode prog_14_method_26_code 22 = .ok (.aload_n 0, 1) := by decide +kernel
theorem d_Mo_nth_23 : decode prog_14_method_26_code 23 = .ok (.getfield 25, 3) := by decide +kernel
theorem d_Mo_nth_26 : decode prog_14_method_26_code 26 = .ok (.bipush 10, 2) := by decide +kernel
theorem d_Mo_nth_28 : decode prog_14_method_26_code 28 = .ok (.iload_n 2, 1) := by decide +kernel
theorem d_Mo_nth_29 : decode prog_14_method_26_code 29 = .ok (.iastore, 1) := by decide +kernel
theorem d_Mo_nth_30 : decode prog_14_method_26_code 30 = .ok (.aload_n 0, 1) := by decide +kernel
theorem d_Mo_nth_31 : decode prog_14_method_26_code 31 = .ok (.aload_n 0, 1) := by decide +kernel
theorem d_Mo_nth_32 : decode prog_14_method_26_code 32 = .ok (.getfield 28, 3) := by decide +kernel
theorem d_Mo_nth_35 : decode prog_14_method_26_code 35 = .ok (.sipush 400, 3) := by decide +kernel
theorem d_Mo_nth_38 : decode prog_14_method_26_code 38 = .ok (.iload_n 2, 1) := by decide +kernel
theorem d_Mo_nth_39 : decode prog_14_method_26_code 39 = .ok (.iload_n 3, 1) := by decide +kernel
theorem d_Mo_nth_40 : decode prog_14_method_26_code 40 = .ok (.invokevirtual 177, 3) := by decide +kernel
theorem d_Mo_nth_43 : decode prog_14_method_26_code 43 = .ok (.ifCond .eq 12, 3) := by decide +kernel
theorem d_Mo_nth_46 : decode prog_14_method_26_code 46 = .ok (.aload_n 0, 1) := by decide +kernel
theorem d_Mo_nth_47 : decode prog_14_method_26_code 47 = .ok (.iload_n 1, 1) := by decide +kernel
theorem d_Mo_nth_48 : decode prog_14_method_26_code 48 = .ok (.iconst 1, 1) := by decide +kernel
theorem d_Mo_nth_49 : decode prog_14_method_26_code 49 = .ok (.invokevirtual 157, 3) := by decide +kernel
theorem d_Mo_nth_52 : decode prog_14_method_26_code 52 = .ok (.goto 9, 3) := by decide +kernel
theorem d_Mo_nth_55 : decode prog_14_method_26_code 55 = .ok (.aload_n 0, 1) := by decide +kernel
theorem d_Mo_nth_56 : decode prog_14_method_26_code 56 = .ok (.ldc 136, 2) := by decide +kernel
theorem d_Mo_nth_58 : decode prog_14_method_26_code 58 = .ok (.invokevirtual 117, 3) := by decide +kernel
theorem d_Mo_nth_61 : decode prog_14_method_26_code 61 = .ok (.ireturn, 1) := by decide +kernel
theorem d_Mo_tell_0 : decode prog_14_method_24_code 0 = .ok (.iload 4, 2) := by decide +kernel
theorem d_Mo_tell_2 : decode prog_14_method_24_code 2 = .ok (.i2l, 1) := by decide +kernel
theorem d_Mo_tell_3 : decode prog_14_method_24_code 3 = .ok (.lconst 0, 1) := by decide +kernel
theorem d_Mo_tell_4 : decode prog_14_method_24_code 4 = .ok (.aload_n 0, 1) := by decide +kernel
theorem d_Mo_tell_5 : decode prog_14_method_24_code 5 = .ok (.iconst 2, 1) := by decide +kernel
theorem d_Mo_tell_6 : decode prog_14_method_24_code 6 = .ok (.iload_n 3, 1) := by decide +kernel
theorem d_Mo_tell_7 : decode prog_14_method_24_code 7 = .ok (.imul, 1) := by decide +kernel
theorem d_Mo_tell_8 : decode prog_14_method_24_code 8 = .ok (.iconst 0, 1) := by decide +kernel
theorem d_Mo_tell_9 : decode prog_14_method_24_code 9 = .ok (.invokevirtual 172, 3) := by decide +kernel
theorem d_Mo_tell_12 : decode prog_14_method_24_code 12 = .ok (.iconst 1, 1) := by decide +kernel
theorem d_Mo_tell_13 : decode prog_14_method_24_code 13 = .ok (.isub, 1) := by decide +kernel
theorem d_Mo_tell_14 : decode prog_14_method_24_code 14 = .ok (.i2l, 1) := by decide +kernel
theorem d_Mo_tell_15 : decode prog_14_method_24_code 15 = .ok (.invokestatic 102, 3) := by decide +kernel
theorem d_Mo_tell_18 : decode prog_14_method_24_code 18 = .ok (.ifCond .ne 5, 3) := by decide +kernel
theorem d_Mo_tell_21 : decode prog_14_method_24_code 21 = .ok (.iconst 0, 1) := by decide +kernel
theorem d_Mo_tell_22 : decode prog_14_method_24_code 22 = .ok (.ireturn, 1) := by decide +kernel
theorem d_Mo_tell_23 : decode prog_14_method_24_code 23 = .ok (.iload 4, 2) := by decide +kernel
theorem d_Mo_tell_25 : decode prog_14_method_24_code 25 = .ok (.istore 5, 2) := by decide +kernel
theorem d_Mo_tell_27 : decode prog_14_method_24_code 27 = .ok (.iconst 0, 1) := by decide +kernel
theorem d_Mo_tell_28 : decode prog_14_method_24_code 28 = .ok (.istore 6, 2) := by decide +kernel
theorem d_Mo_tell_30 : decode prog_14_method_24_code 30 = .ok (.iconst 0, 1) := by decide +kernel
theorem d_Mo_tell_31 : decode prog_14_method_24_code 31 = .ok (.istore 7, 2) := by decide +kernel
theorem d_Mo_tell_33 : decode prog_14_method_24_code 33 = .ok (.iload 7, 2) := by decide +kernel
theorem d_Mo_tell_35 : decode prog_14_method_24_code 35 = .ok (.iconst 2, 1) := by decide +kernel
theorem d_Mo_tell_36 : decode prog_14_method_24_code 36 = .ok (.iload_n 3, 1) := by decide +kernel
theorem d_Mo_tell_37 : decode prog_14_method_24_code 37 = .ok (.imul, 1) := by decide +kernel
theorem d_Mo_tell_38 : decode prog_14_method_24_code 38 = .ok (.if_icmp .ge 88, 3) := by decide +kernel
theorem d_Mo_tell_41 : decode prog_14_method_24_code 41 = .ok (.aload_n 0, 1) := by decide +kernel
theorem d_Mo_tell_42 : decode prog_14_method_24_code 42 = .ok (.iconst 2, 1) := by decide +kernel
theorem d_Mo_tell_43 : decode prog_14_method_24_code 43 = .ok (.iload_n 3, 1) := by decide +kernel
theorem d_Mo_tell_44 : decode prog_14_method_24_code 44 = .ok (.imul, 1) := by decide +kernel
theorem d_Mo_tell_45 : decode prog_14_method_24_code 45 = .ok (.iload 7, 2) := by decide +kernel
theorem d_Mo_tell_47 : decode prog_14_method_24_code 47 = .ok (.isub, 1) := by decide +kernel
theorem d_Mo_tell_48 : decode prog_14_method_24_code 48 = .ok (.iconst 1, 1) := by decide +kernel
theorem d_Mo_tell_49 : decode prog_14_method_24_code 49 = .ok (.isub, 1) := by decide +kernel
theorem d_Mo_tell_50 : decode prog_14_method_24_code 50 = .ok (.iload 6, 2) := by decide +kernel
theorem d_Mo_tell_52 : decode prog_14_method_24_code 52 = .ok (.iconst 1, 1) := by decide +kernel
theorem d_Mo_tell_53 : decode prog_14_method_24_code 53 = .ok (.iadd, 1) := by decide +kernel
theorem d_Mo_tell_54 : decode prog_14_method_24_code 54 = .ok (.invokevirtual 172, 3) := by decide +kernel
theorem d_Mo_tell_57 : decode prog_14_method_24_code 57 = .ok (.istore 8, 2) := by decide +kernel
theorem d_Mo_tell_59 : decode prog_14_method_24_code 59 = .ok (.iload 5, 2) := by decide +kernel
theorem d_Mo_tell_61 : decode prog_14_method_24_code 61 = .ok (.iload 8, 2) := by decide +kernel
theorem d_Mo_tell_63 : decode prog_14_method_24_code 63 = .ok (.if_icmp .ge 7, 3) := by decide +kernel
theorem d_Mo_tell_66 : decode prog_14_method_24_code 66 = .ok (.iconst 1, 1) := by decide +kernel
theorem d_Mo_tell_67 : decode prog_14_method_24_code 67 = .ok (.goto 4, 3) := by decide +kernel
theorem d_Mo_tell_70 : decode prog_14_method_24_code 70 = .ok (.iconst 0, 1) := by decide +kernel
theorem d_Mo_tell_71 : decode prog_14_method_24_code 71 = .ok (.istore 9, 2) := by decide +kernel
theorem d_Mo_tell_73 : decode prog_14_method_24_code 73 = .ok (.iload 5, 2) := by decide +kernel
theorem d_Mo_tell_75 : decode prog_14_method_24_code 75 = .ok (.iload 9, 2) := by decide +kernel
theorem d_Mo_tell_77 : decode prog_14_method_24_code 77 = .ok (.ifCond .eq 7, 3) := by decide +kernel
theorem d_Mo_tell_80 : decode prog_14_method_24_code 80 = .ok (.iconst 0, 1) := by decide +kernel
theorem d_Mo_tell_81 : decode prog_14_method_24_code 81 = .ok (.goto 5, 3) := by decide +kernel
theorem d_Mo_tell_84 : decode prog_14_method_24_code 84 = .ok (.iload 8, 2) := by decide +kernel
theorem d_Mo_tell_86 : decode prog_14_method_24_code 86 = .ok (.isub, 1) := by decide +kernel
theorem d_Mo_tell_87 : decode prog_14_method_24_code 87 = .ok (.istore 5, 2) := by decide +kernel
theorem d_Mo_tell_89 : decode prog_14_method_24_code 89 = .ok (.iload 6, 2) := by decide +kernel
theorem d_Mo_tell_91 : decode prog_14_method_24_code 91 = .ok (.iload 9, 2) := by decide +kernel
theorem d_Mo_tell_93 : decode prog_14_method_24_code 93 = .ok (.ifCond .eq 7, 3) := by decide +kernel
theorem d_Mo_tell_96 : decode prog_14_method_24_code 96 = .ok (.iconst 1, 1) := by decide +kernel
theorem d_Mo_tell_97 : decode prog_14_method_24_code 97 = .ok (.goto 4, 3) := by decide +kernel
theorem d_Mo_tell_100 : decode prog_14_method_24_code 100 = .ok (.iconst (-1), 1) := by decide +kernel
theorem d_Mo_tell_101 : decode prog_14_method_24_code 101 = .ok (.iadd, 1) := by decide +kernel
theorem d_Mo_tell_102 : decode prog_14_method_24_code 102 = .ok (.istore 6, 2) := by decide +kernel
theorem d_Mo_tell_104 : decode prog_14_method_24_code 104 = .ok (.aload_n 1, 1) := by decide +kernel
theorem d_Mo_tell_105 : decode prog_14_method_24_code 105 = .ok (.iload_n 2, 1) := by decide +kernel
theorem d_Mo_tell_106 : decode prog_14_method_24_code 106 = .ok (.iload 7, 2) := by decide +kernel
theorem d_Mo_tell_108 : decode prog_14_method_24_code 108 = .ok (.iadd, 1) := by decide +kernel
theorem d_Mo_tell_109 : decode prog_14_method_24_code 109 = .ok (.iload 9, 2) := by decide +kernel
theorem d_Mo_tell_111 : decode prog_14_method_24_code 111 = .ok (.ifCond .eq 7, 3) := by decide +kernel
theorem d_Mo_tell_114 : decode prog_14_method_24_code 114 = .ok (.iconst 1, 1) := by decide +kernel
theorem d_Mo_tell_115 : decode prog_14_method_24_code 115 = .ok (.goto 4, 3) := by decide +kernel
theorem d_Mo_tell_118 : decode prog_14_method_24_code 118 = .ok (.iconst (-1), 1) := by decide +kernel
theorem d_Mo_tell_119 : decode prog_14_method_24_code 119 = .ok (.iastore, 1) := by decide +kernel
theorem d_Mo_tell_120 : decode prog_14_method_24_code 120 = .ok (.iinc 7 1, 3) := by decide +kernel
theorem d_Mo_tell_123 : decode prog_14_method_24_code 123 = .ok (.goto (-90), 3) := by decide +kernel
theorem d_Mo_tell_126 : decode prog_14_method_24_code 126 = .ok (.iconst 1, 1) := by decide +kernel
theorem d_Mo_tell_127 : decode prog_14_method_24_code 127 = .ok (.ireturn, 1) := by decide +kernel
theorem d_Mo_endsOf_0 : decode prog_14_method_23_code 0 = .ok (.aload_n 0, 1) := by decide +kernel
theorem d_Mo_endsOf_1 : decode prog_14_method_23_code 1 = .ok (.getfield 168, 3) := by decide +kernel
theorem d_Mo_endsOf_4 : decode prog_14_method_23_code 4 = .ok (.ifCond .ne 99, 3) := by decide +kernel
theorem d_Mo_endsOf_7 : decode prog_14_method_23_code 7 = .ok (.aload_n 0, 1) := by decide +kernel
theorem d_Mo_endsOf_8 : decode prog_14_method_23_code 8 = .ok (.iconst 1, 1) := by decide +kernel
theorem d_Mo_endsOf_9 : decode prog_14_method_23_code 9 = .ok (.putfield 168, 3) := by decide +kernel
theorem d_Mo_endsOf_12 : decode prog_14_method_23_code 12 = .ok (.aload_n 0, 1) := by decide +kernel
theorem d_Mo_endsOf_13 : decode prog_14_method_23_code 13 = .ok (.getfield 56, 3) := by decide +kernel
theorem d_Mo_endsOf_16 : decode prog_14_method_23_code 16 = .ok (.iconst 0, 1) := by decide +kernel
theorem d_Mo_endsOf_17 : decode prog_14_method_23_code 17 = .ok (.iconst 1, 1) := by decide +kernel
theorem d_Mo_endsOf_18 : decode prog_14_method_23_code 18 = .ok (.iastore, 1) := by decide +kernel
theorem d_Mo_endsOf_19 : decode prog_14_method_23_code 19 = .ok (.iconst 1, 1) := by decide +kernel
theorem d_Mo_endsOf_20 : decode prog_14_method_23_code 20 = .ok (.istore_n 3, 1) := by decide +kernel
theorem d_Mo_endsOf_21 : decode prog_14_method_23_code 21 = .ok (.iload_n 3, 1) := by decide +kernel
theorem d_Mo_endsOf_22 : decode prog_14_method_23_code 22 = .ok (.bipush 25, 2) := by decide +kernel
theorem d_Mo_endsOf_24 : decode prog_14_method_23_code 24 = .ok (.if_icmp .ge 79, 3) := by decide +kernel
theorem d_Mo_endsOf_27 : decode prog_14_method_23_code 27 = .ok (.iconst 0, 1) := by decide +kernel
theorem d_Mo_endsOf_28 : decode prog_14_method_23_code 28 = .ok (.istore 4, 2) := by decide +kernel
theorem d_Mo_endsOf_30 : decode prog_14_method_23_code 30 = .ok (.iload 4, 2) := by decide +kernel
theorem d_Mo_endsOf_32 : decode prog_14_method_23_code 32 = .ok (.bipush 25, 2) := by decide +kernel
theorem d_Mo_endsOf_34 : decode prog_14_method_23_code 34 = .ok (.if_icmp .ge 63, 3) := by decide +kernel
theorem d_Mo_endsOf_37 : decode prog_14_method_23_code 37 = .ok (.aload_n 0, 1) := by decide +kernel
theorem d_Mo_endsOf_38 : decode prog_14_method_23_code 38 = .ok (.getfield 56, 3) := by decide +kernel
theorem d_Mo_endsOf_41 : decode prog_14_method_23_code 41 = .ok (.bipush 26, 2) := by decide +kernel
theorem d_Mo_endsOf_43 : decode prog_14_method_23_code 43 = .ok (.iload_n 3, 1) := by decide +kernel
theorem d_Mo_endsOf_44 : decode prog_14_method_23_code 44 = .ok (.imul, 1) := by decide +kernel
theorem d_Mo_endsOf_45 : decode prog_14_method_23_code 45 = .ok (.iload 4, 2) := by decide +kernel
theorem d_Mo_endsOf_47 : decode prog_14_method_23_code 47 = .ok (.iadd, 1) := by decide +kernel
theorem d_Mo_endsOf_48 : decode prog_14_method_23_code 48 = .ok (.aload_n 0, 1) := by decide +kernel
theorem d_Mo_endsOf_49 : decode prog_14_method_23_code 49 = .ok (.getfield 56, 3) := by decide +kernel
theorem d_Mo_endsOf_52 : decode prog_14_method_23_code 52 = .ok (.bipush 26, 2) := by decide +kernel
theorem d_Mo_endsOf_54 : decode prog_14_method_23_code 54 = .ok (.iload_n 3, 1) := by decide +kernel
theorem d_Mo_endsOf_55 : decode prog_14_method_23_code 55 = .ok (.iconst 1, 1) := by decide +kernel
theorem d_Mo_endsOf_56 : decode prog_14_method_23_code 56 = .ok (.isub, 1) := by decide +kernel
theorem d_Mo_endsOf_57 : decode prog_14_method_23_code 57 = .ok (.imul, 1) := by decide +kernel
theorem d_Mo_endsOf_58 : decode prog_14_method_23_code 58 = .ok (.iload 4, 2) := by decide +kernel
theorem d_Mo_endsOf_60 : decode prog_14_method_23_code 60 = .ok (.iadd, 1) := by decide +kernel
theorem d_Mo_endsOf_61 : decode prog_14_method_23_code 61 = .ok (.iconst 1, 1) := by decide +kernel
theorem d_Mo_endsOf_62 : decode prog_14_method_23_code 62 = .ok (.iadd, 1) := by decide +kernel
theorem d_Mo_endsOf_63 : decode prog_14_method_23_code 63 = .ok (.iaload, 1) := by decide +kernel
theorem d_Mo_endsOf_64 : decode prog_14_method_23_code 64 = .ok (.iload 4, 2) := by decide +kernel
theorem d_Mo_endsOf_66 : decode prog_14_method_23_code 66 = .ok (.ifCond .le 22, 3) := by decide +kernel
theorem d_Mo_endsOf_69 : decode prog_14_method_23_code 69 = .ok (.aload_n 0, 1) := by decide +kernel
theorem d_Mo_endsOf_70 : decode prog_14_method_23_code 70 = .ok (.getfield 56, 3) := by decide +kernel
theorem d_Mo_endsOf_73 : decode prog_14_method_23_code 73 = .ok (.bipush 26, 2) := by decide +kernel
theorem d_Mo_endsOf_75 : decode prog_14_method_23_code 75 = .ok (.iload_n 3, 1) := by decide +kernel
theorem d_Mo_endsOf_76 : decode prog_14_method_23_code 76 = .ok (.iconst 1, 1) := by decide +kernel
theorem d_Mo_endsOf_77 : decode prog_14_method_23_code 77 = .ok (.isub, 1) := by decide +kernel
theorem d_Mo_endsOf_78 : decode prog_14_method_23_code 78 = .ok (.imul, 1) := by decide +kernel
theorem d_Mo_endsOf_79 : decode prog_14_method_23_code 79 = .ok (.iload 4, 2) := by decide +kernel
theorem d_Mo_endsOf_81 : decode prog_14_method_23_code 81 = .ok (.iadd, 1) := by decide +kernel
theorem d_Mo_endsOf_82 : decode prog_14_method_23_code 82 = .ok (.iconst 1, 1) := by decide +kernel
theorem d_Mo_endsOf_83 : decode prog_14_method_23_code 83 = .ok (.isub, 1) := by decide +kernel
theorem d_Mo_endsOf_84 : decode prog_14_method_23_code 84 = .ok (.iaload, 1) := by decide +kernel
theorem d_Mo_endsOf_85 : decode prog_14_method_23_code 85 = .ok (.goto 4, 3) := by decide +kernel
theorem d_Mo_endsOf_88 : decode prog_14_method_23_code 88 = .ok (.iconst 0, 1) := by decide +kernel
theorem d_Mo_endsOf_89 : decode prog_14_method_23_code 89 = .ok (.iadd, 1) := by decide +kernel
theorem d_Mo_endsOf_90 : decode prog_14_method_23_code 90 = .ok (.iastore, 1) := by decide +kernel
theorem d_Mo_endsOf_91 : decode prog_14_method_23_code 91 = .ok (.iinc 4 1, 3) := by decide +kernel
theorem d_Mo_endsOf_94 : decode prog_14_method_23_code 94 = .ok (.goto (-64), 3) := by decide +kernel
theorem d_Mo_endsOf_97 : decode prog_14_method_23_code 97 = .ok (.iinc 3 1, 3) := by decide +kernel
theorem d_Mo_endsOf_100 : decode prog_14_method_23_code 100 = .ok (.goto (-79), 3) := by decide +kernel
theorem d_Mo_endsOf_103 : decode prog_14_method_23_code 103 = .ok (.iload_n 2, 1) := by decide +kernel
theorem d_Mo_endsOf_104 : decode prog_14_method_23_code 104 = .ok (.ifCond .lt 9, 3) := by decide +kernel
theorem d_Mo_endsOf_107 : decode prog_14_method_23_code 107 = .ok (.iload_n 2, 1) := by decide +kernel
theorem d_Mo_endsOf_108 : decode prog_14_method_23_code 108 = .ok (.bipush 25, 2) := by decide +kernel
theorem d_Mo_endsOf_110 : decode prog_14_method_23_code 110 = .ok (.if_icmp .le 7, 3) := by decide +kernel
theorem d_Mo_endsOf_113 : decode prog_14_method_23_code 113 = .ok (.iconst 0, 1) := by decide +kernel
theorem d_Mo_endsOf_114 : decode prog_14_method_23_code 114 = .ok (.goto 14, 3) := by decide +kernel
theorem d_Mo_endsOf_117 : decode prog_14_method_23_code 117 = .ok (.aload_n 0, 1) := by decide +kernel
theorem d_Mo_endsOf_118 : decode prog_14_method_23_code 118 = .ok (.getfield 56, 3) := by decide +kernel
theorem d_Mo_endsOf_121 : decode prog_14_method_23_code 121 = .ok (.bipush 26, 2) := by decide +kernel
theorem d_Mo_endsOf_123 : decode prog_14_method_23_code 123 = .ok (.iload_n 1, 1) := by decide +kernel
theorem d_Mo_endsOf_124 : decode prog_14_method_23_code 124 = .ok (.imul, 1) := by decide +kernel
theorem d_Mo_endsOf_125 : decode prog_14_method_23_code 125 = .ok (.iload_n 2, 1) := by decide +kernel
theorem d_Mo_endsOf_126 : decode prog_14_method_23_code 126 = .ok (.iadd, 1) := by decide +kernel
theorem d_Mo_endsOf_127 : decode prog_14_method_23_code 127 = .ok (.iaload, 1) := by decide +kernel
theorem d_Mo_endsOf_128 : decode prog_14_method_23_code 128 = .ok (.ireturn, 1) := by decide +kernel
theorem d_Mo_turn_0 : decode prog_14_method_29_code 0 = .ok (.iload_n 1, 1) := by decide +kernel
theorem d_Mo_turn_1 : decode prog_14_method_29_code 1 = .ok (.invokestatic 152, 3) := by decide +kernel
theorem d_Mo_turn_4 : decode prog_14_method_29_code 4 = .ok (.ifCond .eq 10, 3) := by decide +kernel
theorem d_Mo_turn_7 : decode prog_14_method_29_code 7 = .ok (.iload_n 2, 1) := by decide +kernel
theorem d_Mo_turn_8 : decode prog_14_method_29_code 8 = .ok (.invokestatic 152, 3) := by decide +kernel
theorem d_Mo_turn_11 : decode prog_14_method_29_code 11 = .ok (.ifCond .ne 6, 3) := by decide +kernel
theorem d_Mo_turn_14 : decode prog_14_method_29_code 14 = .ok (.ldc 112, 2) := by decide +kernel
theorem d_Mo_turn_16 : decode prog_14_method_29_code 16 = .ok (.ireturn, 1) := by decide +kernel
theorem d_Mo_turn_17 : decode prog_14_method_29_code 17 = .ok (.aload_n 0, 1) := by decide +kernel
theorem d_Mo_turn_18 : decode prog_14_method_29_code 18 = .ok (.iload_n 2, 1) := by decide +kernel
theorem d_Mo_turn_19 : decode prog_14_method_29_code 19 = .ok (.iconst 2, 1) := by decide +kernel
theorem d_Mo_turn_20 : decode prog_14_method_29_code 20 = .ok (.invokevirtual 165, 3) := by decide +kernel
theorem d_Mo_turn_23 : decode prog_14_method_29_code 23 = .ok (.istore_n 3, 1) := by decide +kernel
theorem d_Mo_turn_24 : decode prog_14_method_29_code 24 = .ok (.iload_n 3, 1) := by decide +kernel
theorem d_Mo_turn_25 : decode prog_14_method_29_code 25 = .ok (.ifCond .eq 5, 3) := by decide +kernel
theorem d_Mo_turn_28 : decode prog_14_method_29_code 28 = .ok (.iload_n 3, 1) := by decide +kernel
theorem d_Mo_turn_29 : decode prog_14_method_29_code 29 = .ok (.ireturn, 1) := by decide +kernel
theorem d_Mo_turn_30 : decode prog_14_method_29_code 30 = .ok (.aload_n 0, 1) := by decide +kernel
theorem d_Mo_turn_31 : decode prog_14_method_29_code 31 = .ok (.getfield 25, 3) := by decide +kernel
theorem d_Mo_turn_34 : decode prog_14_method_29_code 34 = .ok (.bipush 10, 2) := by decide +kernel
theorem d_Mo_turn_36 : decode prog_14_method_29_code 36 = .ok (.aload_n 0, 1) := by decide +kernel
theorem d_Mo_turn_37 : decode prog_14_method_29_code 37 = .ok (.getfield 25, 3) := by decide +kernel
theorem d_Mo_turn_40 : decode prog_14_method_29_code 40 = .ok (.iload_n 2, 1) := by decide +kernel
theorem d_Mo_turn_41 : decode prog_14_method_29_code 41 = .ok (.iaload, 1) := by decide +kernel
theorem d_Mo_turn_42 : decode prog_14_method_29_code 42 = .ok (.iastore, 1) := by decide +kernel
theorem d_Mo_turn_43 : decode prog_14_method_29_code 43 = .ok (.aload_n 0, 1) := by decide +kernel
theorem d_Mo_turn_44 : decode prog_14_method_29_code 44 = .ok (.aload_n 0, 1) := by decide +kernel
theorem d_Mo_turn_45 : decode prog_14_method_29_code 45 = .ok (.getfield 28, 3) := by decide +kernel
theorem d_Mo_turn_48 : decode prog_14_method_29_code 48 = .ok (.sipush 400, 3) := by decide +kernel
theorem d_Mo_turn_51 : decode prog_14_method_29_code 51 = .ok (.aload_n 0, 1) := by decide +kernel
theorem d_Mo_turn_52 : decode prog_14_method_29_code 52 = .ok (.getfield 34, 3) := by decide +kernel
theorem d_Mo_turn_55 : decode prog_14_method_29_code 55 = .ok (.bipush 40, 2) := by decide +kernel
theorem d_Mo_turn_57 : decode prog_14_method_29_code 57 = .ok (.iload_n 2, 1) := by decide +kernel
theorem d_Mo_turn_58 : decode prog_14_method_29_code 58 = .ok (.imul, 1) := by decide +kernel
theorem d_Mo_turn_59 : decode prog_14_method_29_code 59 = .ok (.aload_n 0, 1) := by decide +kernel
theorem d_Mo_turn_60 : decode prog_14_method_29_code 60 = .ok (.getfield 25, 3) := by decide +kernel
theorem d_Mo_turn_63 : decode prog_14_method_29_code 63 = .ok (.iload_n 2, 1) := by decide +kernel
theorem d_Mo_turn_64 : decode prog_14_method_29_code 64 = .ok (.iaload, 1) := by decide +kernel
theorem d_Mo_turn_65 : decode prog_14_method_29_code 65 = .ok (.invokevirtual 181, 3) := by decide +kernel
theorem d_Mo_turn_68 : decode prog_14_method_29_code 68 = .ok (.aload_n 0, 1) := by decide +kernel
theorem d_Mo_turn_69 : decode prog_14_method_29_code 69 = .ok (.iload_n 1, 1) := by decide +kernel
theorem d_Mo_turn_70 : decode prog_14_method_29_code 70 = .ok (.iconst 1, 1) := by decide +kernel
theorem d_Mo_turn_71 : decode prog_14_method_29_code 71 = .ok (.invokevirtual 157, 3) := by decide +kernel
theorem d_Mo_turn_74 : decode prog_14_method_29_code 74 = .ok (.ireturn, 1) := by decide +kernel
theorem d_Mo_turnTo_0 : decode prog_14_method_27_code 0 = .ok (.iconst 0, 1) := by decide +kernel
theorem d_Mo_turnTo_1 : decode prog_14_method_27_code 1 = .ok (.istore 6, 2) := by decide +kernel
theorem d_Mo_turnTo_3 : decode prog_14_method_27_code 3 = .ok (.iload 6, 2) := by decide +kernel
theorem d_Mo_turnTo_5 : decode prog_14_method_27_code 5 = .ok (.iconst 2, 1) := by decide +kernel
theorem d_Mo_turnTo_6 : decode prog_14_method_27_code 6 = .ok (.iload 5, 2) := by decide +kernel
theorem d_Mo_turnTo_8 : decode prog_14_method_27_code 8 = .ok (.imul, 1) := by decide +kernel
theorem d_Mo_turnTo_9 : decode prog_14_method_27_code 9 = .ok (.if_icmp .ge 64, 3) := by decide +kernel
theorem d_Mo_turnTo_12 : decode prog_14_method_27_code 12 = .ok (.iload 6, 2) := by decide +kernel
theorem d_Mo_turnTo_14 : decode prog_14_method_27_code 14 = .ok (.iconst 2, 1) := by decide +kernel
theorem d_Mo_turnTo_15 : decode prog_14_method_27_code 15 = .ok (.iload 5, 2) := by decide +kernel
theorem d_Mo_turnTo_17 : decode prog_14_method_27_code 17 = .ok (.imul, 1) := by decide +kernel
theorem d_Mo_turnTo_18 : decode prog_14_method_27_code 18 = .ok (.iadd, 1) := by decide +kernel
theorem d_Mo_turnTo_19 : decode prog_14_method_27_code 19 = .ok (.iconst 1, 1) := by decide +kernel
theorem d_Mo_turnTo_20 : decode prog_14_method_27_code 20 = .ok (.isub, 1) := by decide +kernel
theorem d_Mo_turnTo_21 : decode prog_14_method_27_code 21 = .ok (.iconst 2, 1) := by decide +kernel
theorem d_Mo_turnTo_22 : decode prog_14_method_27_code 22 = .ok (.iload 5, 2) := by decide +kernel
theorem d_Mo_turnTo_24 : decode prog_14_method_27_code 24 = .ok (.imul, 1) := by decide +kernel
theorem d_Mo_turnTo_25 : decode prog_14_method_27_code 25 = .ok (.irem, 1) := by decide +kernel
theorem d_Mo_turnTo_26 : decode prog_14_method_27_code 26 = .ok (.istore 7, 2) := by decide +kernel
theorem d_Mo_turnTo_28 : decode prog_14_method_27_code 28 = .ok (.aload_n 3, 1) := by decide +kernel
theorem d_Mo_turnTo_29 : decode prog_14_method_27_code 29 = .ok (.iload 4, 2) := by decide +kernel
theorem d_Mo_turnTo_31 : decode prog_14_method_27_code 31 = .ok (.iload 6, 2) := by decide +kernel
theorem d_Mo_turnTo_33 : decode prog_14_method_27_code 33 = .ok (.iadd, 1) := by decide +kernel
theorem d_Mo_turnTo_34 : decode prog_14_method_27_code 34 = .ok (.iaload, 1) := by decide +kernel
theorem d_Mo_turnTo_35 : decode prog_14_method_27_code 35 = .ok (.iconst 2, 1) := by decide +kernel
theorem d_Mo_turnTo_36 : decode prog_14_method_27_code 36 = .ok (.iload 5, 2) := by decide +kernel
theorem d_Mo_turnTo_38 : decode prog_14_method_27_code 38 = .ok (.imul, 1) := by decide +kernel
theorem d_Mo_turnTo_39 : decode prog_14_method_27_code 39 = .ok (.iadd, 1) := by decide +kernel
theorem d_Mo_turnTo_40 : decode prog_14_method_27_code 40 = .ok (.iconst 1, 1) := by decide +kernel
theorem d_Mo_turnTo_41 : decode prog_14_method_27_code 41 = .ok (.isub, 1) := by decide +kernel
theorem d_Mo_turnTo_42 : decode prog_14_method_27_code 42 = .ok (.iconst 2, 1) := by decide +kernel
theorem d_Mo_turnTo_43 : decode prog_14_method_27_code 43 = .ok (.iload 5, 2) := by decide +kernel
theorem d_Mo_turnTo_45 : decode prog_14_method_27_code 45 = .ok (.imul, 1) := by decide +kernel
theorem d_Mo_turnTo_46 : decode prog_14_method_27_code 46 = .ok (.irem, 1) := by decide +kernel
theorem d_Mo_turnTo_47 : decode prog_14_method_27_code 47 = .ok (.istore 8, 2) := by decide +kernel
theorem d_Mo_turnTo_49 : decode prog_14_method_27_code 49 = .ok (.aload_n 1, 1) := by decide +kernel
theorem d_Mo_turnTo_50 : decode prog_14_method_27_code 50 = .ok (.iload_n 2, 1) := by decide +kernel
theorem d_Mo_turnTo_51 : decode prog_14_method_27_code 51 = .ok (.iload 7, 2) := by decide +kernel
theorem d_Mo_turnTo_53 : decode prog_14_method_27_code 53 = .ok (.iadd, 1) := by decide +kernel
theorem d_Mo_turnTo_54 : decode prog_14_method_27_code 54 = .ok (.iload 7, 2) := by decide +kernel
theorem d_Mo_turnTo_56 : decode prog_14_method_27_code 56 = .ok (.iload 8, 2) := by decide +kernel
theorem d_Mo_turnTo_58 : decode prog_14_method_27_code 58 = .ok (.if_icmp .ge 7, 3) := by decide +kernel
theorem d_Mo_turnTo_61 : decode prog_14_method_27_code 61 = .ok (.iconst 1, 1) := by decide +kernel
theorem d_Mo_turnTo_62 : decode prog_14_method_27_code 62 = .ok (.goto 4, 3) := by decide +kernel
theorem d_Mo_turnTo_65 : decode prog_14_method_27_code 65 = .ok (.iconst (-1), 1) := by decide +kernel
theorem d_Mo_turnTo_66 : decode prog_14_method_27_code 66 = .ok (.iastore, 1) := by decide +kernel
theorem d_Mo_turnTo_67 : decode prog_14_method_27_code 67 = .ok (.iinc 6 1, 3) := by decide +kernel
theorem d_Mo_turnTo_70 : decode prog_14_method_27_code 70 = .ok (.goto (-67), 3) := by decide +kernel
theorem d_Mo_turnTo_73 : decode prog_14_method_27_code 73 = .ok (.return_, 1) := by decide +kernel
theorem d_Mo_mirror_0 : decode prog_14_method_30_code 0 = .ok (.iload_n 1, 1) := by decide +kernel
theorem d_Mo_mirror_1 : decode prog_14_method_30_code 1 = .ok (.invokestatic 152, 3) := by decide +kernel
theorem d_Mo_mirror_4 : decode prog_14_method_30_code 4 = .ok (.ifCond .eq 10, 3) := by decide +kernel
theorem d_Mo_mirror_7 : decode prog_14_method_30_code 7 = .ok (.iload_n 2, 1) := by decide +kernel
theorem d_Mo_mirror_8 : decode prog_14_method_30_code 8 = .ok (.invokestatic 152, 3) := by decide +kernel
theorem d_Mo_mirror_11 : decode prog_14_method_30_code 11 = .ok (.ifCond .ne 6, 3) := by decide +kernel
theorem d_Mo_mirror_14 : decode prog_14_method_30_code 14 = .ok (.ldc 112, 2) := by decide +kernel
theorem d_Mo_mirror_16 : decode prog_14_method_30_code 16 = .ok (.ireturn, 1) := by decide +kernel
theorem d_Mo_mirror_17 : decode prog_14_method_30_code 17 = .ok (.aload_n 0, 1) := by decide +kernel
theorem d_Mo_mirror_18 : decode prog_14_method_30_code 18 = .ok (.getfield 22, 3) := by decide +kernel
theorem d_Mo_mirror_21 : decode prog_14_method_30_code 21 = .ok (.iload_n 2, 1) := by decide +kernel
theorem d_Mo_mirror_22 : decode prog_14_method_30_code 22 = .ok (.iaload, 1) := by decide +kernel
theorem d_Mo_mirror_23 : decode prog_14_method_30_code 23 = .ok (.ifCond .ne 9, 3) := by decide +kernel
theorem d_Mo_mirror_26 : decode prog_14_method_30_code 26 = .ok (.aload_n 0, 1) := by decide +kernel
theorem d_Mo_mirror_27 : decode prog_14_method_30_code 27 = .ok (.iconst 1, 1) := by decide +kernel
theorem d_Mo_mirror_28 : decode prog_14_method_30_code 28 = .ok (.invokevirtual 113, 3) := by decide +kernel
theorem d_Mo_mirror_31 : decode prog_14_method_30_code 31 = .ok (.ireturn, 1) := by decide +kernel
theorem d_Mo_mirror_32 : decode prog_14_method_30_code 32 = .ok (.aload_n 0, 1) := by decide +kernel
theorem d_Mo_mirror_33 : decode prog_14_method_30_code 33 = .ok (.getfield 22, 3) := by decide +kernel
theorem d_Mo_mirror_36 : decode prog_14_method_30_code 36 = .ok (.iload_n 2, 1) := by decide +kernel
theorem d_Mo_mirror_37 : decode prog_14_method_30_code 37 = .ok (.iaload, 1) := by decide +kernel
theorem d_Mo_mirror_38 : decode prog_14_method_30_code 38 = .ok (.iconst 5, 1) := by decide +kernel
theorem d_Mo_mirror_39 : decode prog_14_method_30_code 39 = .ok (.invokestatic 161, 3) := by decide +kernel
theorem d_Mo_mirror_42 : decode prog_14_method_30_code 42 = .ok (.istore_n 3, 1) := by decide +kernel
theorem d_Mo_mirror_43 : decode prog_14_method_30_code 43 = .ok (.iload_n 3, 1) := by decide +kernel
theorem d_Mo_mirror_44 : decode prog_14_method_30_code 44 = .ok (.ifCond .ne 22, 3) := by decide +kernel
theorem d_Mo_mirror_47 : decode prog_14_method_30_code 47 = .ok (.aload_n 0, 1) := by decide +kernel
theorem d_Mo_mirror_48 : decode prog_14_method_30_code 48 = .ok (.getfield 22, 3) := by decide +kernel
theorem d_Mo_mirror_51 : decode prog_14_method_30_code 51 = .ok (.iload_n 2, 1) := by decide +kernel
theorem d_Mo_mirror_52 : decode prog_14_method_30_code 52 = .ok (.iaload, 1) := by decide +kernel
theorem d_Mo_mirror_53 : decode prog_14_method_30_code 53 = .ok (.iconst 2, 1) := by decide +kernel
theorem d_Mo_mirror_54 : decode prog_14_method_30_code 54 = .ok (.invokestatic 161, 3) := by decide +kernel
theorem d_Mo_mirror_57 : decode prog_14_method_30_code 57 = .ok (.ifCond .ne 9, 3) := by decide +kernel
theorem d_Mo_mirror_60 : decode prog_14_method_30_code 60 = .ok (.aload_n 0, 1) := by decide +kernel
theorem d_Mo_mirror_61 : decode prog_14_method_30_code 61 = .ok (.iconst 3, 1) := by decide +kernel
theorem d_Mo_mirror_62 : decode prog_14_method_30_code 62 = .ok (.invokevirtual 113, 3) := by decide +kernel
theorem d_Mo_mirror_65 : decode prog_14_method_30_code 65 = .ok (.ireturn, 1) := by decide +kernel
theorem d_Mo_mirror_66 : decode prog_14_method_30_code 66 = .ok (.aload_n 0, 1) := by decide +kernel
theorem d_Mo_mirror_67 : decode prog_14_method_30_code 67 = .ok (.getfield 25, 3) := by decide +kernel
theorem d_Mo_mirror_70 : decode prog_14_method_30_code 70 = .ok (.bipush 10, 2) := by decide +kernel
theorem d_Mo_mirror_72 : decode prog_14_method_30_code 72 = .ok (.aload_n 0, 1) := by decide +kernel
theorem d_Mo_mirror_73 : decode prog_14_method_30_code 73 = .ok (.getfield 25, 3) := by decide +kernel
theorem d_Mo_mirror_76 : decode prog_14_method_30_code 76 = .ok (.iload_n 2, 1) := by decide +kernel
theorem d_Mo_mirror_77 : decode prog_14_method_30_code 77 = .ok (.iaload, 1) := by decide +kernel
theorem d_Mo_mirror_78 : decode prog_14_method_30_code 78 = .ok (.iastore, 1) := by decide +kernel
theorem d_Mo_mirror_79 : decode prog_14_method_30_code 79 = .ok (.aload_n 0, 1) := by decide +kernel
theorem d_Mo_mirror_80 : decode prog_14_method_30_code 80 = .ok (.aload_n 0, 1) := by decide +kernel
theorem d_Mo_mirror_81 : decode prog_14_method_30_code 81 = .ok (.getfield 28, 3) := by decide +kernel
theorem d_Mo_mirror_84 : decode prog_14_method_30_code 84 = .ok (.sipush 400, 3) := by decide +kernel
theorem d_Mo_mirror_87 : decode prog_14_method_30_code 87 = .ok (.aload_n 0, 1) := by decide +kernel
theorem d_Mo_mirror_88 : decode prog_14_method_30_code 88 = .ok (.getfield 28, 3) := by decide +kernel
theorem d_Mo_mirror_91 : decode prog_14_method_30_code 91 = .ok (.bipush 40, 2) := by decide +kernel
theorem d_Mo_mirror_93 : decode prog_14_method_30_code 93 = .ok (.iload_n 2, 1) := by decide +kernel
theorem d_Mo_mirror_94 : decode prog_14_method_30_code 94 = .ok (.imul, 1) := by decide +kernel
theorem d_Mo_mirror_95 : decode prog_14_method_30_code 95 = .ok (.aload_n 0, 1) := by decide +kernel
theorem d_Mo_mirror_96 : decode prog_14_method_30_code 96 = .ok (.getfield 25, 3) := by decide +kernel
theorem d_Mo_mirror_99 : decode prog_14_method_30_code 99 = .ok (.iload_n 2, 1) := by decide +kernel
theorem d_Mo_mirror_100 : decode prog_14_method_30_code 100 = .ok (.iaload, 1) := by decide +kernel
theorem d_Mo_mirror_101 : decode prog_14_method_30_code 101 = .ok (.invokevirtual 185, 3) := by decide +kernel
theorem d_Mo_mirror_104 : decode prog_14_method_30_code 104 = .ok (.iload_n 3, 1) := by decide +kernel
theorem d_Mo_mirror_105 : decode prog_14_method_30_code 105 = .ok (.ifCond .eq 28, 3) := by decide +kernel
theorem d_Mo_mirror_108 : decode prog_14_method_30_code 108 = .ok (.aload_n 0, 1) := by decide +kernel
theorem d_Mo_mirror_109 : decode prog_14_method_30_code 109 = .ok (.aload_n 0, 1) := by decide +kernel
theorem d_Mo_mirror_110 : decode prog_14_method_30_code 110 = .ok (.getfield 31, 3) := by decide +kernel
theorem d_Mo_mirror_113 : decode prog_14_method_30_code 113 = .ok (.sipush 400, 3) := by decide +kernel
theorem d_Mo_mirror_116 : decode prog_14_method_30_code 116 = .ok (.aload_n 0, 1) := by decide +kernel
theorem d_Mo_mirror_117 : decode prog_14_method_30_code 117 = .ok (.getfield 31, 3) := by decide +kernel
theorem d_Mo_mirror_120 : decode prog_14_method_30_code 120 = .ok (.bipush 40, 2) := by decide +kernel
theorem d_Mo_mirror_122 : decode prog_14_method_30_code 122 = .ok (.iload_n 2, 1) := by decide +kernel
theorem d_Mo_mirror_123 : decode prog_14_method_30_code 123 = .ok (.imul, 1) := by decide +kernel
theorem d_Mo_mirror_124 : decode prog_14_method_30_code 124 = .ok (.aload_n 0, 1) := by decide +kernel
theorem d_Mo_mirror_125 : decode prog_14_method_30_code 125 = .ok (.getfield 25, 3) := by decide +kernel
theorem d_Mo_mirror_128 : decode prog_14_method_30_code 128 = .ok (.iload_n 2, 1) := by decide +kernel
theorem d_Mo_mirror_129 : decode prog_14_method_30_code 129 = .ok (.iaload, 1) := by decide +kernel
theorem d_Mo_mirror_130 : decode prog_14_method_30_code 130 = .ok (.invokevirtual 185, 3) := by decide +kernel
theorem d_Mo_mirror_133 : decode prog_14_method_30_code 133 = .ok (.aload_n 0, 1) := by decide +kernel
theorem d_Mo_mirror_134 : decode prog_14_method_30_code 134 = .ok (.iload_n 1, 1) := by decide +kernel
theorem d_Mo_mirror_135 : decode prog_14_method_30_code 135 = .ok (.iload_n 3, 1) := by decide +kernel
theorem d_Mo_mirror_136 : decode prog_14_method_30_code 136 = .ok (.ifCond .eq 7, 3) := by decide +kernel
theorem d_Mo_mirror_139 : decode prog_14_method_30_code 139 = .ok (.iconst 5, 1) := by decide +kernel
theorem d_Mo_mirror_140 : decode prog_14_method_30_code 140 = .ok (.goto 4, 3) := by decide +kernel
theorem d_Mo_mirror_143 : decode prog_14_method_30_code 143 = .ok (.iconst 1, 1) := by decide +kernel
theorem d_Mo_mirror_144 : decode prog_14_method_30_code 144 = .ok (.invokevirtual 157, 3) := by decide +kernel
theorem d_Mo_mirror_147 : decode prog_14_method_30_code 147 = .ok (.ireturn, 1) := by decide +kernel
theorem d_Mo_mirrorTo_0 : decode prog_14_method_28_code 0 = .ok (.iconst 0, 1) := by decide +kernel
theorem d_Mo_mirrorTo_1 : decode prog_14_method_28_code 1 = .ok (.istore 6, 2) := by decide +kernel
theorem d_Mo_mirrorTo_3 : decode prog_14_method_28_code 3 = .ok (.iload 6, 2) := by decide +kernel
theorem d_Mo_mirrorTo_5 : decode prog_14_method_28_code 5 = .ok (.iconst 2, 1) := by decide +kernel
theorem d_Mo_mirrorTo_6 : decode prog_14_method_28_code 6 = .ok (.iload 5, 2) := by decide +kernel
theorem d_Mo_mirrorTo_8 : decode prog_14_method_28_code 8 = .ok (.imul, 1) := by decide +kernel
theorem d_Mo_mirrorTo_9 : decode prog_14_method_28_code 9 = .ok (.if_icmp .ge 30, 3) := by decide +kernel
theorem d_Mo_mirrorTo_12 : decode prog_14_method_28_code 12 = .ok (.aload_n 1, 1) := by decide +kernel
theorem d_Mo_mirrorTo_13 : decode prog_14_method_28_code 13 = .ok (.iload_n 2, 1) := by decide +kernel
theorem d_Mo_mirrorTo_14 : decode prog_14_method_28_code 14 = .ok (.iconst 2, 1) := by decide +kernel
theorem d_Mo_mirrorTo_15 : decode prog_14_method_28_code 15 = .ok (.iload 5, 2) := by decide +kernel
theorem d_Mo_mirrorTo_17 : decode prog_14_method_28_code 17 = .ok (.imul, 1) := by decide +kernel
theorem d_Mo_mirrorTo_18 : decode prog_14_method_28_code 18 = .ok (.iadd, 1) := by decide +kernel
theorem d_Mo_mirrorTo_19 : decode prog_14_method_28_code 19 = .ok (.iconst 1, 1) := by decide +kernel
theorem d_Mo_mirrorTo_20 : decode prog_14_method_28_code 20 = .ok (.isub, 1) := by decide +kernel
theorem d_Mo_mirrorTo_21 : decode prog_14_method_28_code 21 = .ok (.iload 6, 2) := by decide +kernel
theorem d_Mo_mirrorTo_23 : decode prog_14_method_28_code 23 = .ok (.isub, 1) := by decide +kernel
theorem d_Mo_mirrorTo_24 : decode prog_14_method_28_code 24 = .ok (.aload_n 3, 1) := by decide +kernel
theorem d_Mo_mirrorTo_25 : decode prog_14_method_28_code 25 = .ok (.iload 4, 2) := by decide +kernel
theorem d_Mo_mirrorTo_27 : decode prog_14_method_28_code 27 = .ok (.iload 6, 2) := by decide +kernel
theorem d_Mo_mirrorTo_29 : decode prog_14_method_28_code 29 = .ok (.iadd, 1) := by decide +kernel
theorem d_Mo_mirrorTo_30 : decode prog_14_method_28_code 30 = .ok (.iaload, 1) := by decide +kernel
theorem d_Mo_mirrorTo_31 : decode prog_14_method_28_code 31 = .ok (.ineg, 1) := by decide +kernel
theorem d_Mo_mirrorTo_32 : decode prog_14_method_28_code 32 = .ok (.iastore, 1) := by decide +kernel
theorem d_Mo_mirrorTo_33 : decode prog_14_method_28_code 33 = .ok (.iinc 6 1, 3) := by decide +kernel
theorem d_Mo_mirrorTo_36 : decode prog_14_method_28_code 36 = .ok (.goto (-33), 3) := by decide +kernel
theorem d_Mo_mirrorTo_39 : decode prog_14_method_28_code 39 = .ok (.return_, 1) := by decide +kernel
theorem d_Mo_clear_0 : decode prog_14_method_31_code 0 = .ok (.iload_n 1, 1) := by decide +kernel
theorem d_Mo_clear_1 : decode prog_14_method_31_code 1 = .ok (.invokestatic 152, 3) := by decide +kernel
theorem d_Mo_clear_4 : decode prog_14_method_31_code 4 = .ok (.ifCond .ne 6, 3) := by decide +kernel
theorem d_Mo_clear_7 : decode prog_14_method_31_code 7 = .ok (.ldc 112, 2) := by decide +kernel
theorem d_Mo_clear_9 : decode prog_14_method_31_code 9 = .ok (.ireturn, 1) := by decide +kernel
theorem d_Mo_clear_10 : decode prog_14_method_31_code 10 = .ok (.aload_n 0, 1) := by decide +kernel
theorem d_Mo_clear_11 : decode prog_14_method_31_code 11 = .ok (.getfield 22, 3) := by decide +kernel
theorem d_Mo_clear_14 : decode prog_14_method_31_code 14 = .ok (.iload_n 1, 1) := by decide +kernel
theorem d_Mo_clear_15 : decode prog_14_method_31_code 15 = .ok (.iaload, 1) := by decide +kernel
theorem d_Mo_clear_16 : decode prog_14_method_31_code 16 = .ok (.ifCond .le 7, 3) := by decide +kernel
theorem d_Mo_clear_19 : decode prog_14_method_31_code 19 = .ok (.iconst 1, 1) := by decide +kernel
theorem d_Mo_clear_20 : decode prog_14_method_31_code 20 = .ok (.goto 4, 3) := by decide +kernel
theorem d_Mo_clear_23 : decode prog_14_method_31_code 23 = .ok (.iconst 0, 1) := by decide +kernel
theorem d_Mo_clear_24 : decode prog_14_method_31_code 24 = .ok (.istore_n 2, 1) := by decide +kernel
theorem d_Mo_clear_25 : decode prog_14_method_31_code 25 = .ok (.aload_n 0, 1) := by decide +kernel
theorem d_Mo_clear_26 : decode prog_14_method_31_code 26 = .ok (.getfield 22, 3) := by decide +kernel
theorem d_Mo_clear_29 : decode prog_14_method_31_code 29 = .ok (.iload_n 1, 1) := by decide +kernel
theorem d_Mo_clear_30 : decode prog_14_method_31_code 30 = .ok (.iconst 0, 1) := by decide +kernel
theorem d_Mo_clear_31 : decode prog_14_method_31_code 31 = .ok (.iastore, 1) := by decide +kernel
theorem d_Mo_clear_32 : decode prog_14_method_31_code 32 = .ok (.iload_n 2, 1) := by decide +kernel
theorem d_Mo_clear_33 : decode prog_14_method_31_code 33 = .ok (.ireturn, 1) := by decide +kernel
theorem d_Mo_kind_0 : decode prog_14_method_32_code 0 = .ok (.iload_n 1, 1) := by decide +kernel
theorem d_Mo_kind_1 : decode prog_14_method_32_code 1 = .ok (.invokestatic 152, 3) := by decide +kernel
theorem d_Mo_kind_4 : decode prog_14_method_32_code 4 = .ok (.ifCond .ne 6, 3) := by decide +kernel
theorem d_Mo_kind_7 : decode prog_14_method_32_code 7 = .ok (.ldc 112, 2) := by decide +kernel
theorem d_Mo_kind_9 : decode prog_14_method_32_code 9 = .ok (.ireturn, 1) := by decide +kernel
theorem d_Mo_kind_10 : decode prog_14_method_32_code 10 = .ok (.aload_n 0, 1) := by decide +kernel
theorem d_Mo_kind_11 : decode prog_14_method_32_code 11 = .ok (.getfield 22, 3) := by decide +kernel
theorem d_Mo_kind_14 : decode prog_14_method_32_code 14 = .ok (.iload_n 1, 1) := by decide +kernel
theorem d_Mo_kind_15 : decode prog_14_method_32_code 15 = .ok (.iaload, 1) := by decide +kernel
theorem d_Mo_kind_16 : decode prog_14_method_32_code 16 = .ok (.ifCond .ne 11, 3) := by decide +kernel
theorem d_Mo_kind_19 : decode prog_14_method_32_code 19 = .ok (.aload_n 0, 1) := by decide +kernel
theorem d_Mo_kind_20 : decode prog_14_method_32_code 20 = .ok (.iconst 1, 1) := by decide +kernel
theorem d_Mo_kind_21 : decode prog_14_method_32_code 21 = .ok (.invokevirtual 113, 3) := by decide +kernel
theorem d_Mo_kind_24 : decode prog_14_method_32_code 24 = .ok (.goto 13, 3) := by decide +kernel
theorem d_Mo_kind_27 : decode prog_14_method_32_code 27 = .ok (.aload_n 0, 1) := by decide +kernel
theorem d_Mo_kind_28 : decode prog_14_method_32_code 28 = .ok (.aload_n 0, 1) := by decide +kernel
theorem d_Mo_kind_29 : decode prog_14_method_32_code 29 = .ok (.getfield 22, 3) := by decide +kernel
theorem d_Mo_kind_32 : decode prog_14_method_32_code 32 = .ok (.iload_n 1, 1) := by decide +kernel
theorem d_Mo_kind_33 : decode prog_14_method_32_code 33 = .ok (.iaload, 1) := by decide +kernel
theorem d_Mo_kind_34 : decode prog_14_method_32_code 34 = .ok (.invokevirtual 117, 3) := by decide +kernel
theorem d_Mo_kind_37 : decode prog_14_method_32_code 37 = .ok (.ireturn, 1) := by decide +kernel
theorem d_Mo_is_0 : decode prog_14_method_33_code 0 = .ok (.iload_n 1, 1) := by decide +kernel
theorem d_Mo_is_1 : decode prog_14_method_33_code 1 = .ok (.invokestatic 152, 3) := by decide +kernel
theorem d_Mo_is_4 : decode prog_14_method_33_code 4 = .ok (.ifCond .eq 15, 3) := by decide +kernel
theorem d_Mo_is_7 : decode prog_14_method_33_code 7 = .ok (.iload_n 2, 1) := by decide +kernel
theorem d_Mo_is_8 : decode prog_14_method_33_code 8 = .ok (.i2l, 1) := by decide +kernel
theorem d_Mo_is_9 : decode prog_14_method_33_code 9 = .ok (.lconst 0, 1) := by decide +kernel
theorem d_Mo_is_10 : decode prog_14_method_33_code 10 = .ok (.ldc2_w 188, 3) := by decide +kernel
theorem d_Mo_is_13 : decode prog_14_method_33_code 13 = .ok (.invokestatic 102, 3) := by decide +kernel
theorem d_Mo_is_16 : decode prog_14_method_33_code 16 = .ok (.ifCond .ne 6, 3) := by decide +kernel
theorem d_Mo_is_19 : decode prog_14_method_33_code 19 = .ok (.ldc 112, 2) := by decide +kernel
theorem d_Mo_is_21 : decode prog_14_method_33_code 21 = .ok (.ireturn, 1) := by decide +kernel
theorem d_Mo_is_22 : decode prog_14_method_33_code 22 = .ok (.aload_n 0, 1) := by decide +kernel
theorem d_Mo_is_23 : decode prog_14_method_33_code 23 = .ok (.getfield 22, 3) := by decide +kernel
theorem d_Mo_is_26 : decode prog_14_method_33_code 26 = .ok (.iload_n 1, 1) := by decide +kernel
theorem d_Mo_is_27 : decode prog_14_method_33_code 27 = .ok (.iaload, 1) := by decide +kernel
theorem d_Mo_is_28 : decode prog_14_method_33_code 28 = .ok (.ifCond .le 20, 3) := by decide +kernel
theorem d_Mo_is_31 : decode prog_14_method_33_code 31 = .ok (.aload_n 0, 1) := by decide +kernel
theorem d_Mo_is_32 : decode prog_14_method_33_code 32 = .ok (.getfield 22, 3) := by decide +kernel
theorem d_Mo_is_35 : decode prog_14_method_33_code 35 = .ok (.iload_n 1, 1) := by decide +kernel
theorem d_Mo_is_36 : decode prog_14_method_33_code 36 = .ok (.iaload, 1) := by decide +kernel
theorem d_Mo_is_37 : decode prog_14_method_33_code 37 = .ok (.iload_n 2, 1) := by decide +kernel
theorem d_Mo_is_38 : decode prog_14_method_33_code 38 = .ok (.invokestatic 161, 3) := by decide +kernel
theorem d_Mo_is_41 : decode prog_14_method_33_code 41 = .ok (.ifCond .eq 7, 3) := by decide +kernel
theorem d_Mo_is_44 : decode prog_14_method_33_code 44 = .ok (.iconst 1, 1) := by decide +kernel
theorem d_Mo_is_45 : decode prog_14_method_33_code 45 = .ok (.goto 4, 3) := by decide +kernel
theorem d_Mo_is_48 : decode prog_14_method_33_code 48 = .ok (.iconst 0, 1) := by decide +kernel
theorem d_Mo_is_49 : decode prog_14_method_33_code 49 = .ok (.ireturn, 1) := by decide +kernel
theorem d_Mo_as_0 : decode prog_14_method_34_code 0 = .ok (.iload_n 1, 1) := by decide +kernel
theorem d_Mo_as_1 : decode prog_14_method_34_code 1 = .ok (.invokestatic 152, 3) := by decide +kernel
theorem d_Mo_as_4 : decode prog_14_method_34_code 4 = .ok (.ifCond .eq 15, 3) := by decide +kernel
theorem d_Mo_as_7 : decode prog_14_method_34_code 7 = .ok (.iload_n 2, 1) := by decide +kernel
theorem d_Mo_as_8 : decode prog_14_method_34_code 8 = .ok (.i2l, 1) := by decide +kernel
theorem d_Mo_as_9 : decode prog_14_method_34_code 9 = .ok (.lconst 0, 1) := by decide +kernel
theorem d_Mo_as_10 : decode prog_14_method_34_code 10 = .ok (.ldc2_w 188, 3) := by decide +kernel
theorem d_Mo_as_13 : decode prog_14_method_34_code 13 = .ok (.invokestatic 102, 3) := by decide +kernel
theorem d_Mo_as_16 : decode prog_14_method_34_code 16 = .ok (.ifCond .ne 6, 3) := by decide +kernel
theorem d_Mo_as_19 : decode prog_14_method_34_code 19 = .ok (.ldc 112, 2) := by decide +kernel
theorem d_Mo_as_21 : decode prog_14_method_34_code 21 = .ok (.ireturn, 1) := by decide +kernel
theorem d_Mo_as_22 : decode prog_14_method_34_code 22 = .ok (.aload_n 0, 1) := by decide +kernel
theorem d_Mo_as_23 : decode prog_14_method_34_code 23 = .ok (.iload_n 1, 1) := by decide +kernel
theorem d_Mo_as_24 : decode prog_14_method_34_code 24 = .ok (.iload_n 2, 1) := by decide +kernel
theorem d_Mo_as_25 : decode prog_14_method_34_code 25 = .ok (.invokevirtual 165, 3) := by decide +kernel
theorem d_Mo_as_28 : decode prog_14_method_34_code 28 = .ok (.istore_n 3, 1) := by decide +kernel
theorem d_Mo_as_29 : decode prog_14_method_34_code 29 = .ok (.iload_n 3, 1) := by decide +kernel
theorem d_Mo_as_30 : decode prog_14_method_34_code 30 = .ok (.ifCond .eq 7, 3) := by decide +kernel
theorem d_Mo_as_33 : decode prog_14_method_34_code 33 = .ok (.iload_n 3, 1) := by decide +kernel
theorem d_Mo_as_34 : decode prog_14_method_34_code 34 = .ok (.goto 13, 3) := by decide +kernel
theorem d_Mo_as_37 : decode prog_14_method_34_code 37 = .ok (.aload_n 0, 1) := by decide +kernel
theorem d_Mo_as_38 : decode prog_14_method_34_code 38 = .ok (.aload_n 0, 1) := by decide +kernel
theorem d_Mo_as_39 : decode prog_14_method_34_code 39 = .ok (.getfield 25, 3) := by decide +kernel
theorem d_Mo_as_42 : decode prog_14_method_34_code 42 = .ok (.iload_n 1, 1) := by decide +kernel
theorem d_Mo_as_43 : decode prog_14_method_34_code 43 = .ok (.iaload, 1) := by decide +kernel
theorem d_Mo_as_44 : decode prog_14_method_34_code 44 = .ok (.invokevirtual 117, 3) := by decide +kernel
theorem d_Mo_as_47 : decode prog_14_method_34_code 47 = .ok (.ireturn, 1) := by decide +kernel
theorem d_Mo_ask_0 : decode prog_14_method_39_code 0 = .ok (.iload_n 1, 1) := by decide +kernel
theorem d_Mo_ask_1 : decode prog_14_method_39_code 1 = .ok (.invokestatic 152, 3) := by decide +kernel
theorem d_Mo_ask_4 : decode prog_14_method_39_code 4 = .ok (.ifCond .eq 15, 3) := by decide +kernel
theorem d_Mo_ask_7 : decode prog_14_method_39_code 7 = .ok (.iload_n 2, 1) := by decide +kernel
theorem d_Mo_ask_8 : decode prog_14_method_39_code 8 = .ok (.i2l, 1) := by decide +kernel
theorem d_Mo_ask_9 : decode prog_14_method_39_code 9 = .ok (.lconst 0, 1) := by decide +kernel
theorem d_Mo_ask_10 : decode prog_14_method_39_code 10 = .ok (.ldc2_w 110, 3) := by decide +kernel
theorem d_Mo_ask_13 : decode prog_14_method_39_code 13 = .ok (.invokestatic 102, 3) := by decide +kernel
theorem d_Mo_ask_16 : decode prog_14_method_39_code 16 = .ok (.ifCond .ne 6, 3) := by decide +kernel
theorem d_Mo_ask_19 : decode prog_14_method_39_code 19 = .ok (.ldc 112, 2) := by decide +kernel
theorem d_Mo_ask_21 : decode prog_14_method_39_code 21 = .ok (.ireturn, 1) := by decide +kernel
theorem d_Mo_ask_22 : decode prog_14_method_39_code 22 = .ok (.aload_n 0, 1) := by decide +kernel
theorem d_Mo_ask_23 : decode prog_14_method_39_code 23 = .ok (.iconst 0, 1) := by decide +kernel
theorem d_Mo_ask_24 : decode prog_14_method_39_code 24 = .ok (.putfield 190, 3) := by decide +kernel
theorem d_Mo_ask_27 : decode prog_14_method_39_code 27 = .ok (.aload_n 0, 1) := by decide +kernel
theorem d_Mo_ask_28 : decode prog_14_method_39_code 28 = .ok (.getfield 22, 3) := by decide +kernel
theorem d_Mo_ask_31 : decode prog_14_method_39_code 31 = .ok (.iload_n 1, 1) := by decide +kernel
theorem d_Mo_ask_32 : decode prog_14_method_39_code 32 = .ok (.iaload, 1) := by decide +kernel
theorem d_Mo_ask_33 : decode prog_14_method_39_code 33 = .ok (.ifCond .ne 9, 3) := by decide +kernel
theorem d_Mo_ask_36 : decode prog_14_method_39_code 36 = .ok (.aload_n 0, 1) := by decide +kernel
theorem d_Mo_ask_37 : decode prog_14_method_39_code 37 = .ok (.iconst 1, 1) := by decide +kernel
theorem d_Mo_ask_38 : decode prog_14_method_39_code 38 = .ok (.invokevirtual 113, 3) := by decide +kernel
theorem d_Mo_ask_41 : decode prog_14_method_39_code 41 = .ok (.ireturn, 1) := by decide +kernel
theorem d_Mo_ask_42 : decode prog_14_method_39_code 42 = .ok (.aload_n 0, 1) := by decide +kernel
theorem d_Mo_ask_43 : decode prog_14_method_39_code 43 = .ok (.iload_n 2, 1) := by decide +kernel
theorem d_Mo_ask_44 : decode prog_14_method_39_code 44 = .ok (.ifCond .ne 11, 3) := by decide +kernel
theorem d_Mo_ask_47 : decode prog_14_method_39_code 47 = .ok (.aload_n 0, 1) := by decide +kernel
theorem d_Mo_ask_48 : decode prog_14_method_39_code 48 = .ok (.iload_n 1, 1) := by decide +kernel
theorem d_Mo_ask_49 : decode prog_14_method_39_code 49 = .ok (.invokevirtual 197, 3) := by decide +kernel
theorem d_Mo_ask_52 : decode prog_14_method_39_code 52 = .ok (.goto 21, 3) := by decide +kernel
theorem d_Mo_ask_55 : decode prog_14_method_39_code 55 = .ok (.iload_n 2, 1) := by decide +kernel
theorem d_Mo_ask_56 : decode prog_14_method_39_code 56 = .ok (.iconst 1, 1) := by decide +kernel
theorem d_Mo_ask_57 : decode prog_14_method_39_code 57 = .ok (.if_icmp .ne 11, 3) := by decide +kernel
theorem d_Mo_ask_60 : decode prog_14_method_39_code 60 = .ok (.aload_n 0, 1) := by decide +kernel
theorem d_Mo_ask_61 : decode prog_14_method_39_code 61 = .ok (.iload_n 1, 1) := by decide +kernel
theorem d_Mo_ask_62 : decode prog_14_method_39_code 62 = .ok (.invokevirtual 200, 3) := by decide +kernel
theorem d_Mo_ask_65 : decode prog_14_method_39_code 65 = .ok (.goto 8, 3) := by decide +kernel
theorem d_Mo_ask_68 : decode prog_14_method_39_code 68 = .ok (.aload_n 0, 1) := by decide +kernel
theorem d_Mo_ask_69 : decode prog_14_method_39_code 69 = .ok (.iload_n 1, 1) := by decide +kernel
theorem d_Mo_ask_70 : decode prog_14_method_39_code 70 = .ok (.invokevirtual 203, 3) := by decide +kernel
theorem d_Mo_ask_73 : decode prog_14_method_39_code 73 = .ok (.invokevirtual 117, 3) := by decide +kernel
theorem d_Mo_ask_76 : decode prog_14_method_39_code 76 = .ok (.ireturn, 1) := by decide +kernel
theorem d_Mo_sizeOf_0 : decode prog_14_method_36_code 0 = .ok (.aload_n 0, 1) := by decide +kernel
theorem d_Mo_sizeOf_1 : decode prog_14_method_36_code 1 = .ok (.getfield 22, 3) := by decide +kernel
theorem d_Mo_sizeOf_4 : decode prog_14_method_36_code 4 = .ok (.iload_n 1, 1) := by decide +kernel
theorem d_Mo_sizeOf_5 : decode prog_14_method_36_code 5 = .ok (.iaload, 1) := by decide +kernel
theorem d_Mo_sizeOf_6 : decode prog_14_method_36_code 6 = .ok (.iconst 5, 1) := by decide +kernel
theorem d_Mo_sizeOf_7 : decode prog_14_method_36_code 7 = .ok (.invokestatic 161, 3) := by decide +kernel
theorem d_Mo_sizeOf_10 : decode prog_14_method_36_code 10 = .ok (.istore_n 2, 1) := by decide +kernel
theorem d_Mo_sizeOf_11 : decode prog_14_method_36_code 11 = .ok (.iload_n 2, 1) := by decide +kernel
theorem d_Mo_sizeOf_12 : decode prog_14_method_36_code 12 = .ok (.ifCond .eq 9, 3) := by decide +kernel
theorem d_Mo_sizeOf_15 : decode prog_14_method_36_code 15 = .ok (.aload_n 0, 1) := by decide +kernel
theorem d_Mo_sizeOf_16 : decode prog_14_method_36_code 16 = .ok (.bipush 11, 2) := by decide +kernel
theorem d_Mo_sizeOf_18 : decode prog_14_method_36_code 18 = .ok (.invokevirtual 193, 3) := by decide +kernel
theorem d_Mo_sizeOf_21 : decode prog_14_method_36_code 21 = .ok (.aload_n 0, 1) := by decide +kernel
theorem d_Mo_sizeOf_22 : decode prog_14_method_36_code 22 = .ok (.bipush 10, 2) := by decide +kernel
theorem d_Mo_sizeOf_24 : decode prog_14_method_36_code 24 = .ok (.invokevirtual 193, 3) := by decide +kernel
theorem d_Mo_sizeOf_27 : decode prog_14_method_36_code 27 = .ok (.iload_n 2, 1) := by decide +kernel
theorem d_Mo_sizeOf_28 : decode prog_14_method_36_code 28 = .ok (.ifCond .eq 14, 3) := by decide +kernel
theorem d_Mo_sizeOf_31 : decode prog_14_method_36_code 31 = .ok (.iconst 2, 1) := by decide +kernel
theorem d_Mo_sizeOf_32 : decode prog_14_method_36_code 32 = .ok (.aload_n 0, 1) := by decide +kernel
theorem d_Mo_sizeOf_33 : decode prog_14_method_36_code 33 = .ok (.getfield 25, 3) := by decide +kernel
theorem d_Mo_sizeOf_36 : decode prog_14_method_36_code 36 = .ok (.iload_n 1, 1) := by decide +kernel
theorem d_Mo_sizeOf_37 : decode prog_14_method_36_code 37 = .ok (.iaload, 1) := by decide +kernel
theorem d_Mo_sizeOf_38 : decode prog_14_method_36_code 38 = .ok (.imul, 1) := by decide +kernel
theorem d_Mo_sizeOf_39 : decode prog_14_method_36_code 39 = .ok (.goto 9, 3) := by decide +kernel
theorem d_Mo_sizeOf_42 : decode prog_14_method_36_code 42 = .ok (.aload_n 0, 1) := by decide +kernel
theorem d_Mo_sizeOf_43 : decode prog_14_method_36_code 43 = .ok (.getfield 25, 3) := by decide +kernel
theorem d_Mo_sizeOf_46 : decode prog_14_method_36_code 46 = .ok (.iload_n 1, 1) := by decide +kernel
theorem d_Mo_sizeOf_47 : decode prog_14_method_36_code 47 = .ok (.iaload, 1) := by decide +kernel
theorem d_Mo_sizeOf_48 : decode prog_14_method_36_code 48 = .ok (.ireturn, 1) := by decide +kernel
theorem d_Mo_begins_0 : decode prog_14_method_35_code 0 = .ok (.aload_n 0, 1) := by decide +kernel
theorem d_Mo_begins_1 : decode prog_14_method_35_code 1 = .ok (.getfield 190, 3) := by decide +kernel
theorem d_Mo_begins_4 : decode prog_14_method_35_code 4 = .ok (.bipush 16, 2) := by decide +kernel
theorem d_Mo_begins_6 : decode prog_14_method_35_code 6 = .ok (.if_icmp .ge 23, 3) := by decide +kernel
theorem d_Mo_begins_9 : decode prog_14_method_35_code 9 = .ok (.aload_n 0, 1) := by decide +kernel
theorem d_Mo_begins_10 : decode prog_14_method_35_code 10 = .ok (.getfield 40, 3) := by decide +kernel
theorem d_Mo_begins_13 : decode prog_14_method_35_code 13 = .ok (.aload_n 0, 1) := by decide +kernel
theorem d_Mo_begins_14 : decode prog_14_method_35_code 14 = .ok (.getfield 190, 3) := by decide +kernel
theorem d_Mo_begins_17 : decode prog_14_method_35_code 17 = .ok (.iload_n 1, 1) := by decide +kernel
theorem d_Mo_begins_18 : decode prog_14_method_35_code 18 = .ok (.iastore, 1) := by decide +kernel
theorem d_Mo_begins_19 : decode prog_14_method_35_code 19 = .ok (.aload_n 0, 1) := by decide +kernel
theorem d_Mo_begins_20 : decode prog_14_method_35_code 20 = .ok (.dup, 1) := by decide +kernel
theorem d_Mo_begins_21 : decode prog_14_method_35_code 21 = .ok (.getfield 190, 3) := by decide +kernel
theorem d_Mo_begins_24 : decode prog_14_method_35_code 24 = .ok (.iconst 1, 1) := by decide +kernel
theorem d_Mo_begins_25 : decode prog_14_method_35_code 25 = .ok (.iadd, 1) := by decide +kernel
theorem d_Mo_begins_26 : decode prog_14_method_35_code 26 = .ok (.putfield 190, 3) := by decide +kernel
theorem d_Mo_begins_29 : decode prog_14_method_35_code 29 = .ok (.return_, 1) := by decide +kernel
theorem d_Mo_worth_0 : decode prog_14_method_37_code 0 = .ok (.aload_n 0, 1) := by decide +kernel
theorem d_Mo_worth_1 : decode prog_14_method_37_code 1 = .ok (.getfield 22, 3) := by decide +kernel
theorem d_Mo_worth_4 : decode prog_14_method_37_code 4 = .ok (.iload_n 1, 1) := by decide +kernel
theorem d_Mo_worth_5 : decode prog_14_method_37_code 5 = .ok (.iaload, 1) := by decide +kernel
theorem d_Mo_worth_6 : decode prog_14_method_37_code 6 = .ok (.istore_n 2, 1) := by decide +kernel
theorem d_Mo_worth_7 : decode prog_14_method_37_code 7 = .ok (.iconst 0, 1) := by decide +kernel
theorem d_Mo_worth_8 : decode prog_14_method_37_code 8 = .ok (.istore_n 3, 1) := by decide +kernel
theorem d_Mo_worth_9 : decode prog_14_method_37_code 9 = .ok (.iload_n 2, 1) := by decide +kernel
theorem d_Mo_worth_10 : decode prog_14_method_37_code 10 = .ok (.iconst 1, 1) := by decide +kernel
theorem d_Mo_worth_11 : decode prog_14_method_37_code 11 = .ok (.if_icmp .ne 56, 3) := by decide +kernel
theorem d_Mo_worth_14 : decode prog_14_method_37_code 14 = .ok (.aload_n 0, 1) := by decide +kernel
theorem d_Mo_worth_15 : decode prog_14_method_37_code 15 = .ok (.bipush 20, 2) := by decide +kernel
theorem d_Mo_worth_17 : decode prog_14_method_37_code 17 = .ok (.invokevirtual 193, 3) := by decide +kernel
theorem d_Mo_worth_20 : decode prog_14_method_37_code 20 = .ok (.iconst 0, 1) := by decide +kernel
theorem d_Mo_worth_21 : decode prog_14_method_37_code 21 = .ok (.istore 4, 2) := by decide +kernel
theorem d_Mo_worth_23 : decode prog_14_method_37_code 23 = .ok (.iload 4, 2) := by decide +kernel
theorem d_Mo_worth_25 : decode prog_14_method_37_code 25 = .ok (.iconst 2, 1) := by decide +kernel
theorem d_Mo_worth_26 : decode prog_14_method_37_code 26 = .ok (.aload_n 0, 1) := by decide +kernel
theorem d_Mo_worth_27 : decode prog_14_method_37_code 27 = .ok (.getfield 25, 3) := by decide +kernel
theorem d_Mo_worth_30 : decode prog_14_method_37_code 30 = .ok (.iload_n 1, 1) := by decide +kernel
theorem d_Mo_worth_31 : decode prog_14_method_37_code 31 = .ok (.iaload, 1) := by decide +kernel
theorem d_Mo_worth_32 : decode prog_14_method_37_code 32 = .ok (.imul, 1) := by decide +kernel
theorem d_Mo_worth_33 : decode prog_14_method_37_code 33 = .ok (.if_icmp .ge 32, 3) := by decide +kernel
