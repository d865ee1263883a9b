/-! DECODE ROWS, printed by wip/whole/gen/tables.py -/
theorem d_RR_init_0 : decode prog_1_method_1_code 0 = .ok (.aload_n 0, 1) := by decide +kernel
theorem d_RR_init_1 : decode prog_1_method_1_code 1 = .ok (.invokespecial 1, 3) := by decide +kernel
theorem d_RR_init_4 : decode prog_1_method_1_code 4 = .ok (.aload_n 0, 1) := by decide +kernel
theorem d_RR_init_5 : decode prog_1_method_1_code 5 = .ok (.bipush 8, 2) := by decide +kernel
theorem d_RR_init_7 : decode prog_1_method_1_code 7 = .ok (.anewarray 9, 3) := by decide +kernel
theorem d_RR_init_10 : decode prog_1_method_1_code 10 = .ok (.putfield 11, 3) := by decide +kernel
theorem d_RR_init_13 : decode prog_1_method_1_code 13 = .ok (.aload_n 0, 1) := by decide +kernel
theorem d_RR_init_14 : decode prog_1_method_1_code 14 = .ok (.bipush 10, 2) := by decide +kernel
theorem d_RR_init_16 : decode prog_1_method_1_code 16 = .ok (.anewarray 15, 3) := by decide +kernel
theorem d_RR_init_19 : decode prog_1_method_1_code 19 = .ok (.putfield 17, 3) := by decide +kernel
theorem d_RR_init_22 : decode prog_1_method_1_code 22 = .ok (.aload_n 0, 1) := by decide +kernel
theorem d_RR_init_23 : decode prog_1_method_1_code 23 = .ok (.new 21, 3) := by decide +kernel
theorem d_RR_init_26 : decode prog_1_method_1_code 26 = .ok (.dup, 1) := by decide +kernel
theorem d_RR_init_27 : decode prog_1_method_1_code 27 = .ok (.invokespecial 23, 3) := by decide +kernel
theorem d_RR_init_30 : decode prog_1_method_1_code 30 = .ok (.putfield 24, 3) := by decide +kernel
theorem d_RR_init_33 : decode prog_1_method_1_code 33 = .ok (.aload_n 0, 1) := by decide +kernel
theorem d_RR_init_34 : decode prog_1_method_1_code 34 = .ok (.invokestatic 28, 3) := by decide +kernel
theorem d_RR_init_37 : decode prog_1_method_1_code 37 = .ok (.putfield 32, 3) := by decide +kernel
theorem d_RR_init_40 : decode prog_1_method_1_code 40 = .ok (.aload_n 0, 1) := by decide +kernel
theorem d_RR_init_41 : decode prog_1_method_1_code 41 = .ok (.bipush 8, 2) := by decide +kernel
theorem d_RR_init_43 : decode prog_1_method_1_code 43 = .ok (.newarray .int, 2) := by decide +kernel
theorem d_RR_init_45 : decode prog_1_method_1_code 45 = .ok (.putfield 36, 3) := by decide +kernel
theorem d_RR_init_48 : decode prog_1_method_1_code 48 = .ok (.aload_n 0, 1) := by decide +kernel
theorem d_RR_init_49 : decode prog_1_method_1_code 49 = .ok (.bipush 8, 2) := by decide +kernel
theorem d_RR_init_51 : decode prog_1_method_1_code 51 = .ok (.newarray .int, 2) := by decide +kernel
theorem d_RR_init_53 : decode prog_1_method_1_code 53 = .ok (.putfield 39, 3) := by decide +kernel
theorem d_RR_init_56 : decode prog_1_method_1_code 56 = .ok (.aload_n 0, 1) := by decide +kernel
theorem d_RR_init_57 : decode prog_1_method_1_code 57 = .ok (.iconst 0, 1) := by decide +kernel
theorem d_RR_init_58 : decode prog_1_method_1_code 58 = .ok (.putfield 42, 3) := by decide +kernel
theorem d_RR_init_61 : decode prog_1_method_1_code 61 = .ok (.return_, 1) := by decide +kernel
theorem d_Tr_init_0 : decode prog_12_method_1_code 0 = .ok (.aload_n 0, 1) := by decide +kernel
theorem d_Tr_init_1 : decode prog_12_method_1_code 1 = .ok (.invokespecial 1, 3) := by decide +kernel
theorem d_Tr_init_4 : decode prog_12_method_1_code 4 = .ok (.aload_n 0, 1) := by decide +kernel
theorem d_Tr_init_5 : decode prog_12_method_1_code 5 = .ok (.bipush 16, 2) := by decide +kernel
theorem d_Tr_init_7 : decode prog_12_method_1_code 7 = .ok (.newarray .int, 2) := by decide +kernel
theorem d_Tr_init_9 : decode prog_12_method_1_code 9 = .ok (.putfield 7, 3) := by decide +kernel
theorem d_Tr_init_12 : decode prog_12_method_1_code 12 = .ok (.aload_n 0, 1) := by decide +kernel
theorem d_Tr_init_13 : decode prog_12_method_1_code 13 = .ok (.iconst 0, 1) := by decide +kernel
theorem d_Tr_init_14 : decode prog_12_method_1_code 14 = .ok (.putfield 13, 3) := by decide +kernel
theorem d_Tr_init_17 : decode prog_12_method_1_code 17 = .ok (.return_, 1) := by decide +kernel
theorem d_RR_countEndings_0 : decode prog_1_method_47_code 0 = .ok (.sipush 169, 3) := by decide +kernel
theorem d_RR_countEndings_3 : decode prog_1_method_47_code 3 = .ok (.newarray .int, 2) := by decide +kernel
theorem d_RR_countEndings_5 : decode prog_1_method_47_code 5 = .ok (.astore_n 0, 1) := by decide +kernel
theorem d_RR_countEndings_6 : decode prog_1_method_47_code 6 = .ok (.iconst 0, 1) := by decide +kernel
theorem d_RR_countEndings_7 : decode prog_1_method_47_code 7 = .ok (.istore_n 1, 1) := by decide +kernel
theorem d_RR_countEndings_8 : decode prog_1_method_47_code 8 = .ok (.iload_n 1, 1) := by decide +kernel
theorem d_RR_countEndings_9 : decode prog_1_method_47_code 9 = .ok (.bipush 12, 2) := by decide +kernel
theorem d_RR_countEndings_11 : decode prog_1_method_47_code 11 = .ok (.if_icmp .gt 67, 3) := by decide +kernel
theorem d_RR_countEndings_14 : decode prog_1_method_47_code 14 = .ok (.aload_n 0, 1) := by decide +kernel
theorem d_RR_countEndings_15 : decode prog_1_method_47_code 15 = .ok (.iconst 0, 1) := by decide +kernel
theorem d_RR_countEndings_16 : decode prog_1_method_47_code 16 = .ok (.iload_n 1, 1) := by decide +kernel
theorem d_RR_countEndings_17 : decode prog_1_method_47_code 17 = .ok (.invokestatic 257, 3) := by decide +kernel
theorem d_RR_countEndings_20 : decode prog_1_method_47_code 20 = .ok (.iconst 1, 1) := by decide +kernel
theorem d_RR_countEndings_21 : decode prog_1_method_47_code 21 = .ok (.iastore, 1) := by decide +kernel
theorem d_RR_countEndings_22 : decode prog_1_method_47_code 22 = .ok (.iconst 1, 1) := by decide +kernel
theorem d_RR_countEndings_23 : decode prog_1_method_47_code 23 = .ok (.istore_n 2, 1) := by decide +kernel
theorem d_RR_countEndings_24 : decode prog_1_method_47_code 24 = .ok (.iload_n 2, 1) := by decide +kernel
theorem d_RR_countEndings_25 : decode prog_1_method_47_code 25 = .ok (.iload_n 1, 1) := by decide +kernel
theorem d_RR_countEndings_26 : decode prog_1_method_47_code 26 = .ok (.if_icmp .gt 46, 3) := by decide +kernel
theorem d_RR_countEndings_29 : decode prog_1_method_47_code 29 = .ok (.iload_n 2, 1) := by decide +kernel
theorem d_RR_countEndings_30 : decode prog_1_method_47_code 30 = .ok (.iload_n 1, 1) := by decide +kernel
theorem d_RR_countEndings_31 : decode prog_1_method_47_code 31 = .ok (.if_icmp .ge 15, 3) := by decide +kernel
theorem d_RR_countEndings_34 : decode prog_1_method_47_code 34 = .ok (.aload_n 0, 1) := by decide +kernel
theorem d_RR_countEndings_35 : decode prog_1_method_47_code 35 = .ok (.iload_n 2, 1) := by decide +kernel
theorem d_RR_countEndings_36 : decode prog_1_method_47_code 36 = .ok (.iload_n 1, 1) := by decide +kernel
theorem d_RR_countEndings_37 : decode prog_1_method_47_code 37 = .ok (.iconst 1, 1) := by decide +kernel
theorem d_RR_countEndings_38 : decode prog_1_method_47_code 38 = .ok (.isub, 1) := by decide +kernel
theorem d_RR_countEndings_39 : decode prog_1_method_47_code 39 = .ok (.invokestatic 257, 3) := by decide +kernel
theorem d_RR_countEndings_42 : decode prog_1_method_47_code 42 = .ok (.iaload, 1) := by decide +kernel
theorem d_RR_countEndings_43 : decode prog_1_method_47_code 43 = .ok (.goto 4, 3) := by decide +kernel
theorem d_RR_countEndings_46 : decode prog_1_method_47_code 46 = .ok (.iconst 0, 1) := by decide +kernel
theorem d_RR_countEndings_47 : decode prog_1_method_47_code 47 = .ok (.istore_n 3, 1) := by decide +kernel
theorem d_RR_countEndings_48 : decode prog_1_method_47_code 48 = .ok (.aload_n 0, 1) := by decide +kernel
theorem d_RR_countEndings_49 : decode prog_1_method_47_code 49 = .ok (.iload_n 2, 1) := by decide +kernel
theorem d_RR_countEndings_50 : decode prog_1_method_47_code 50 = .ok (.iload_n 1, 1) := by decide +kernel
theorem d_RR_countEndings_51 : decode prog_1_method_47_code 51 = .ok (.invokestatic 257, 3) := by decide +kernel
theorem d_RR_countEndings_54 : decode prog_1_method_47_code 54 = .ok (.aload_n 0, 1) := by decide +kernel
theorem d_RR_countEndings_55 : decode prog_1_method_47_code 55 = .ok (.iload_n 2, 1) := by decide +kernel
theorem d_RR_countEndings_56 : decode prog_1_method_47_code 56 = .ok (.iconst 1, 1) := by decide +kernel
theorem d_RR_countEndings_57 : decode prog_1_method_47_code 57 = .ok (.isub, 1) := by decide +kernel
theorem d_RR_countEndings_58 : decode prog_1_method_47_code 58 = .ok (.iload_n 1, 1) := by decide +kernel
theorem d_RR_countEndings_59 : decode prog_1_method_47_code 59 = .ok (.invokestatic 257, 3) := by decide +kernel
theorem d_RR_countEndings_62 : decode prog_1_method_47_code 62 = .ok (.iaload, 1) := by decide +kernel
theorem d_RR_countEndings_63 : decode prog_1_method_47_code 63 = .ok (.iload_n 3, 1) := by decide +kernel
theorem d_RR_countEndings_64 : decode prog_1_method_47_code 64 = .ok (.iadd, 1) := by decide +kernel
theorem d_RR_countEndings_65 : decode prog_1_method_47_code 65 = .ok (.iastore, 1) := by decide +kernel
theorem d_RR_countEndings_66 : decode prog_1_method_47_code 66 = .ok (.iinc 2 1, 3) := by decide +kernel
theorem d_RR_countEndings_69 : decode prog_1_method_47_code 69 = .ok (.goto (-45), 3) := by decide +kernel
theorem d_RR_countEndings_72 : decode prog_1_method_47_code 72 = .ok (.iinc 1 1, 3) := by decide +kernel
theorem d_RR_countEndings_75 : decode prog_1_method_47_code 75 = .ok (.goto (-67), 3) := by decide +kernel
theorem d_RR_countEndings_78 : decode prog_1_method_47_code 78 = .ok (.aload_n 0, 1) := by decide +kernel
theorem d_RR_countEndings_79 : decode prog_1_method_47_code 79 = .ok (.areturn, 1) := by decide +kernel
theorem d_RR_endingsAt_0 : decode prog_1_method_48_code 0 = .ok (.iload_n 0, 1) := by decide +kernel
theorem d_RR_endingsAt_1 : decode prog_1_method_48_code 1 = .ok (.bipush 13, 2) := by decide +kernel
theorem d_RR_endingsAt_3 : decode prog_1_method_48_code 3 = .ok (.imul, 1) := by decide +kernel
theorem d_RR_endingsAt_4 : decode prog_1_method_48_code 4 = .ok (.iload_n 1, 1) := by decide +kernel
theorem d_RR_endingsAt_5 : decode prog_1_method_48_code 5 = .ok (.iadd, 1) := by decide +kernel
theorem d_RR_endingsAt_6 : decode prog_1_method_48_code 6 = .ok (.ireturn, 1) := by decide +kernel
theorem d_RR_sheet_0 : decode prog_1_method_2_code 0 = .ok (.iload_n 1, 1) := by decide +kernel
theorem d_RR_sheet_1 : decode prog_1_method_2_code 1 = .ok (.invokestatic 46, 3) := by decide +kernel
theorem d_RR_sheet_4 : decode prog_1_method_2_code 4 = .ok (.ifCond .eq 18, 3) := by decide +kernel
theorem d_RR_sheet_7 : decode prog_1_method_2_code 7 = .ok (.iload_n 2, 1) := by decide +kernel
theorem d_RR_sheet_8 : decode prog_1_method_2_code 8 = .ok (.ifCond .lt 14, 3) := by decide +kernel
theorem d_RR_sheet_11 : decode prog_1_method_2_code 11 = .ok (.iload_n 2, 1) := by decide +kernel
theorem d_RR_sheet_12 : decode prog_1_method_2_code 12 = .ok (.iconst 3, 1) := by decide +kernel
theorem d_RR_sheet_13 : decode prog_1_method_2_code 13 = .ok (.if_icmp .ge 9, 3) := by decide +kernel
theorem d_RR_sheet_16 : decode prog_1_method_2_code 16 = .ok (.iload_n 3, 1) := by decide +kernel
theorem d_RR_sheet_17 : decode prog_1_method_2_code 17 = .ok (.bipush 100, 2) := by decide +kernel
theorem d_RR_sheet_19 : decode prog_1_method_2_code 19 = .ok (.if_icmp .le 6, 3) := by decide +kernel
theorem d_RR_sheet_22 : decode prog_1_method_2_code 22 = .ok (.ldc 50, 2) := by decide +kernel
theorem d_RR_sheet_24 : decode prog_1_method_2_code 24 = .ok (.ireturn, 1) := by decide +kernel
theorem d_RR_sheet_25 : decode prog_1_method_2_code 25 = .ok (.iload_n 3, 1) := by decide +kernel
theorem d_RR_sheet_26 : decode prog_1_method_2_code 26 = .ok (.ifCond .ge 9, 3) := by decide +kernel
theorem d_RR_sheet_29 : decode prog_1_method_2_code 29 = .ok (.aload_n 0, 1) := by decide +kernel
theorem d_RR_sheet_30 : decode prog_1_method_2_code 30 = .ok (.iconst 4, 1) := by decide +kernel
theorem d_RR_sheet_31 : decode prog_1_method_2_code 31 = .ok (.invokevirtual 51, 3) := by decide +kernel
theorem d_RR_sheet_34 : decode prog_1_method_2_code 34 = .ok (.ireturn, 1) := by decide +kernel
theorem d_RR_sheet_35 : decode prog_1_method_2_code 35 = .ok (.aload_n 0, 1) := by decide +kernel
theorem d_RR_sheet_36 : decode prog_1_method_2_code 36 = .ok (.getfield 11, 3) := by decide +kernel
theorem d_RR_sheet_39 : decode prog_1_method_2_code 39 = .ok (.iload_n 1, 1) := by decide +kernel
theorem d_RR_sheet_40 : decode prog_1_method_2_code 40 = .ok (.new 9, 3) := by decide +kernel
theorem d_RR_sheet_43 : decode prog_1_method_2_code 43 = .ok (.dup, 1) := by decide +kernel
theorem d_RR_sheet_44 : decode prog_1_method_2_code 44 = .ok (.iload_n 2, 1) := by decide +kernel
theorem d_RR_sheet_45 : decode prog_1_method_2_code 45 = .ok (.iload_n 3, 1) := by decide +kernel
theorem d_RR_sheet_46 : decode prog_1_method_2_code 46 = .ok (.newarray .int, 2) := by decide +kernel
theorem d_RR_sheet_48 : decode prog_1_method_2_code 48 = .ok (.invokespecial 55, 3) := by decide +kernel
theorem d_RR_sheet_51 : decode prog_1_method_2_code 51 = .ok (.aastore, 1) := by decide +kernel
theorem d_RR_sheet_52 : decode prog_1_method_2_code 52 = .ok (.aload_n 0, 1) := by decide +kernel
theorem d_RR_sheet_53 : decode prog_1_method_2_code 53 = .ok (.iload_n 3, 1) := by decide +kernel
theorem d_RR_sheet_54 : decode prog_1_method_2_code 54 = .ok (.invokevirtual 58, 3) := by decide +kernel
theorem d_RR_sheet_57 : decode prog_1_method_2_code 57 = .ok (.ireturn, 1) := by decide +kernel
theorem d_RR_isSheet_0 : decode prog_1_method_36_code 0 = .ok (.iload_n 0, 1) := by decide +kernel
theorem d_RR_isSheet_1 : decode prog_1_method_36_code 1 = .ok (.ifCond .lt 13, 3) := by decide +kernel
theorem d_RR_isSheet_4 : decode prog_1_method_36_code 4 = .ok (.iload_n 0, 1) := by decide +kernel
theorem d_RR_isSheet_5 : decode prog_1_method_36_code 5 = .ok (.bipush 8, 2) := by decide +kernel
theorem d_RR_isSheet_7 : decode prog_1_method_36_code 7 = .ok (.if_icmp .ge 7, 3) := by decide +kernel
theorem d_RR_isSheet_10 : decode prog_1_method_36_code 10 = .ok (.iconst 1, 1) := by decide +kernel
theorem d_RR_isSheet_11 : decode prog_1_method_36_code 11 = .ok (.goto 4, 3) := by decide +kernel
theorem d_RR_isSheet_14 : decode prog_1_method_36_code 14 = .ok (.iconst 0, 1) := by decide +kernel
theorem d_RR_isSheet_15 : decode prog_1_method_36_code 15 = .ok (.ireturn, 1) := by decide +kernel
theorem d_RR_found_0 : decode prog_1_method_32_code 0 = .ok (.aload_n 0, 1) := by decide +kernel
theorem d_RR_found_1 : decode prog_1_method_32_code 1 = .ok (.iload_n 1, 1) := by decide +kernel
theorem d_RR_found_2 : decode prog_1_method_32_code 2 = .ok (.putfield 42, 3) := by decide +kernel
theorem d_RR_found_5 : decode prog_1_method_32_code 5 = .ok (.ldc 230, 2) := by decide +kernel
theorem d_RR_found_7 : decode prog_1_method_32_code 7 = .ok (.iload_n 1, 1) := by decide +kernel
theorem d_RR_found_8 : decode prog_1_method_32_code 8 = .ok (.isub, 1) := by decide +kernel
theorem d_RR_found_9 : decode prog_1_method_32_code 9 = .ok (.ireturn, 1) := by decide +kernel
theorem d_Sh_init_0 : decode prog_9_method_1_code 0 = .ok (.aload_n 0, 1) := by decide +kernel
theorem d_Sh_init_1 : decode prog_9_method_1_code 1 = .ok (.invokespecial 1, 3) := by decide +kernel
theorem d_Sh_init_4 : decode prog_9_method_1_code 4 = .ok (.aload_n 0, 1) := by decide +kernel
theorem d_Sh_init_5 : decode prog_9_method_1_code 5 = .ok (.iload_n 1, 1) := by decide +kernel
theorem d_Sh_init_6 : decode prog_9_method_1_code 6 = .ok (.putfield 7, 3) := by decide +kernel
theorem d_Sh_init_9 : decode prog_9_method_1_code 9 = .ok (.aload_n 0, 1) := by decide +kernel
theorem d_Sh_init_10 : decode prog_9_method_1_code 10 = .ok (.aload_n 2, 1) := by decide +kernel
theorem d_Sh_init_11 : decode prog_9_method_1_code 11 = .ok (.putfield 13, 3) := by decide +kernel
theorem d_Sh_init_14 : decode prog_9_method_1_code 14 = .ok (.return_, 1) := by decide +kernel
theorem d_RR_settled_0 : decode prog_1_method_34_code 0 = .ok (.aload_n 0, 1) := by decide +kernel
theorem d_RR_settled_1 : decode prog_1_method_34_code 1 = .ok (.iconst 0, 1) := by decide +kernel
theorem d_RR_settled_2 : decode prog_1_method_34_code 2 = .ok (.putfield 42, 3) := by decide +kernel
theorem d_RR_settled_5 : decode prog_1_method_34_code 5 = .ok (.iload_n 1, 1) := by decide +kernel
theorem d_RR_settled_6 : decode prog_1_method_34_code 6 = .ok (.ireturn, 1) := by decide +kernel
theorem d_RR_set_0 : decode prog_1_method_3_code 0 = .ok (.iload_n 1, 1) := by decide +kernel
theorem d_RR_set_1 : decode prog_1_method_3_code 1 = .ok (.invokestatic 46, 3) := by decide +kernel
theorem d_RR_set_4 : decode prog_1_method_3_code 4 = .ok (.ifCond .ne 6, 3) := by decide +kernel
theorem d_RR_set_7 : decode prog_1_method_3_code 7 = .ok (.ldc 50, 2) := by decide +kernel
theorem d_RR_set_9 : decode prog_1_method_3_code 9 = .ok (.ireturn, 1) := by decide +kernel
theorem d_RR_set_10 : decode prog_1_method_3_code 10 = .ok (.aload_n 0, 1) := by decide +kernel
theorem d_RR_set_11 : decode prog_1_method_3_code 11 = .ok (.getfield 11, 3) := by decide +kernel
theorem d_RR_set_14 : decode prog_1_method_3_code 14 = .ok (.iload_n 1, 1) := by decide +kernel
theorem d_RR_set_15 : decode prog_1_method_3_code 15 = .ok (.aaload, 1) := by decide +kernel
theorem d_RR_set_16 : decode prog_1_method_3_code 16 = .ok (.astore 4, 2) := by decide +kernel
theorem d_RR_set_18 : decode prog_1_method_3_code 18 = .ok (.aload 4, 2) := by decide +kernel
theorem d_RR_set_20 : decode prog_1_method_3_code 20 = .ok (.ifnonnull 9, 3) := by decide +kernel
theorem d_RR_set_23 : decode prog_1_method_3_code 23 = .ok (.aload_n 0, 1) := by decide +kernel
theorem d_RR_set_24 : decode prog_1_method_3_code 24 = .ok (.iconst 1, 1) := by decide +kernel
theorem d_RR_set_25 : decode prog_1_method_3_code 25 = .ok (.invokevirtual 51, 3) := by decide +kernel
theorem d_RR_set_28 : decode prog_1_method_3_code 28 = .ok (.ireturn, 1) := by decide +kernel
theorem d_RR_set_29 : decode prog_1_method_3_code 29 = .ok (.aload 4, 2) := by decide +kernel
theorem d_RR_set_31 : decode prog_1_method_3_code 31 = .ok (.iload_n 2, 1) := by decide +kernel
theorem d_RR_set_32 : decode prog_1_method_3_code 32 = .ok (.iconst 1, 1) := by decide +kernel
theorem d_RR_set_33 : decode prog_1_method_3_code 33 = .ok (.invokevirtual 61, 3) := by decide +kernel
theorem d_RR_set_36 : decode prog_1_method_3_code 36 = .ok (.ifCond .ne 9, 3) := by decide +kernel
theorem d_RR_set_39 : decode prog_1_method_3_code 39 = .ok (.aload_n 0, 1) := by decide +kernel
theorem d_RR_set_40 : decode prog_1_method_3_code 40 = .ok (.iconst 2, 1) := by decide +kernel
theorem d_RR_set_41 : decode prog_1_method_3_code 41 = .ok (.invokevirtual 51, 3) := by decide +kernel
theorem d_RR_set_44 : decode prog_1_method_3_code 44 = .ok (.ireturn, 1) := by decide +kernel
theorem d_RR_set_45 : decode prog_1_method_3_code 45 = .ok (.aload 4, 2) := by decide +kernel
theorem d_RR_set_47 : decode prog_1_method_3_code 47 = .ok (.getfield 65, 3) := by decide +kernel
theorem d_RR_set_50 : decode prog_1_method_3_code 50 = .ok (.iload_n 2, 1) := by decide +kernel
theorem d_RR_set_51 : decode prog_1_method_3_code 51 = .ok (.aload 4, 2) := by decide +kernel
theorem d_RR_set_53 : decode prog_1_method_3_code 53 = .ok (.iload_n 3, 1) := by decide +kernel
theorem d_RR_set_54 : decode prog_1_method_3_code 54 = .ok (.invokevirtual 68, 3) := by decide +kernel
theorem d_RR_set_57 : decode prog_1_method_3_code 57 = .ok (.iastore, 1) := by decide +kernel
theorem d_RR_set_58 : decode prog_1_method_3_code 58 = .ok (.aload_n 0, 1) := by decide +kernel
theorem d_RR_set_59 : decode prog_1_method_3_code 59 = .ok (.aload 4, 2) := by decide +kernel
theorem d_RR_set_61 : decode prog_1_method_3_code 61 = .ok (.getfield 65, 3) := by decide +kernel
theorem d_RR_set_64 : decode prog_1_method_3_code 64 = .ok (.iload_n 2, 1) := by decide +kernel
theorem d_RR_set_65 : decode prog_1_method_3_code 65 = .ok (.iaload, 1) := by decide +kernel
theorem d_RR_set_66 : decode prog_1_method_3_code 66 = .ok (.invokevirtual 58, 3) := by decide +kernel
theorem d_RR_set_69 : decode prog_1_method_3_code 69 = .ok (.ireturn, 1) := by decide +kernel
theorem d_Sh_holds_0 : decode prog_9_method_2_code 0 = .ok (.iload_n 1, 1) := by decide +kernel
theorem d_Sh_holds_1 : decode prog_9_method_2_code 1 = .ok (.ifCond .lt 22, 3) := by decide +kernel
theorem d_Sh_holds_4 : decode prog_9_method_2_code 4 = .ok (.iload_n 2, 1) := by decide +kernel
theorem d_Sh_holds_5 : decode prog_9_method_2_code 5 = .ok (.ifCond .lt 18, 3) := by decide +kernel
theorem d_Sh_holds_8 : decode prog_9_method_2_code 8 = .ok (.iload_n 1, 1) := by decide +kernel
theorem d_Sh_holds_9 : decode prog_9_method_2_code 9 = .ok (.aload_n 0, 1) := by decide +kernel
theorem d_Sh_holds_10 : decode prog_9_method_2_code 10 = .ok (.getfield 13, 3) := by decide +kernel
theorem d_Sh_holds_13 : decode prog_9_method_2_code 13 = .ok (.arraylength, 1) := by decide +kernel
theorem d_Sh_holds_14 : decode prog_9_method_2_code 14 = .ok (.iload_n 2, 1) := by decide +kernel
theorem d_Sh_holds_15 : decode prog_9_method_2_code 15 = .ok (.isub, 1) := by decide +kernel
theorem d_Sh_holds_16 : decode prog_9_method_2_code 16 = .ok (.if_icmp .gt 7, 3) := by decide +kernel
theorem d_Sh_holds_19 : decode prog_9_method_2_code 19 = .ok (.iconst 1, 1) := by decide +kernel
theorem d_Sh_holds_20 : decode prog_9_method_2_code 20 = .ok (.goto 4, 3) := by decide +kernel
theorem d_Sh_holds_23 : decode prog_9_method_2_code 23 = .ok (.iconst 0, 1) := by decide +kernel
theorem d_Sh_holds_24 : decode prog_9_method_2_code 24 = .ok (.ireturn, 1) := by decide +kernel
theorem d_Sh_cut_0 : decode prog_9_method_3_code 0 = .ok (.aload_n 0, 1) := by decide +kernel
theorem d_Sh_cut_1 : decode prog_9_method_3_code 1 = .ok (.getfield 7, 3) := by decide +kernel
theorem d_Sh_cut_4 : decode prog_9_method_3_code 4 = .ok (.lookupswitch 34 #[(0, 28), (1, 31)], 28) := by decide +kernel
theorem d_Sh_cut_32 : decode prog_9_method_3_code 32 = .ok (.iload_n 1, 1) := by decide +kernel
theorem d_Sh_cut_33 : decode prog_9_method_3_code 33 = .ok (.i2b, 1) := by decide +kernel
theorem d_Sh_cut_34 : decode prog_9_method_3_code 34 = .ok (.ireturn, 1) := by decide +kernel
theorem d_Sh_cut_35 : decode prog_9_method_3_code 35 = .ok (.iload_n 1, 1) := by decide +kernel
theorem d_Sh_cut_36 : decode prog_9_method_3_code 36 = .ok (.i2s, 1) := by decide +kernel
theorem d_Sh_cut_37 : decode prog_9_method_3_code 37 = .ok (.ireturn, 1) := by decide +kernel
theorem d_Sh_cut_38 : decode prog_9_method_3_code 38 = .ok (.iload_n 1, 1) := by decide +kernel
theorem d_Sh_cut_39 : decode prog_9_method_3_code 39 = .ok (.ireturn, 1) := by decide +kernel
theorem d_RR_copy_0 : decode prog_1_method_4_code 0 = .ok (.iload_n 1, 1) := by decide +kernel
theorem d_RR_copy_1 : decode prog_1_method_4_code 1 = .ok (.invokestatic 46, 3) := by decide +kernel
theorem d_RR_copy_4 : decode prog_1_method_4_code 4 = .ok (.ifCond .eq 10, 3) := by decide +kernel
theorem d_RR_copy_7 : decode prog_1_method_4_code 7 = .ok (.iload_n 3, 1) := by decide +kernel
theorem d_RR_copy_8 : decode prog_1_method_4_code 8 = .ok (.invokestatic 46, 3) := by decide +kernel
theorem d_RR_copy_11 : decode prog_1_method_4_code 11 = .ok (.ifCond .ne 6, 3) := by decide +kernel
theorem d_RR_copy_14 : decode prog_1_method_4_code 14 = .ok (.ldc 50, 2) := by decide +kernel
theorem d_RR_copy_16 : decode prog_1_method_4_code 16 = .ok (.ireturn, 1) := by decide +kernel
theorem d_RR_copy_17 : decode prog_1_method_4_code 17 = .ok (.aload_n 0, 1) := by decide +kernel
theorem d_RR_copy_18 : decode prog_1_method_4_code 18 = .ok (.getfield 11, 3) := by decide +kernel
theorem d_RR_copy_21 : decode prog_1_method_4_code 21 = .ok (.iload_n 1, 1) := by decide +kernel
theorem d_RR_copy_22 : decode prog_1_method_4_code 22 = .ok (.aaload, 1) := by decide +kernel
theorem d_RR_copy_23 : decode prog_1_method_4_code 23 = .ok (.astore 6, 2) := by decide +kernel
theorem d_RR_copy_25 : decode prog_1_method_4_code 25 = .ok (.aload_n 0, 1) := by decide +kernel
theorem d_RR_copy_26 : decode prog_1_method_4_code 26 = .ok (.getfield 11, 3) := by decide +kernel
theorem d_RR_copy_29 : decode prog_1_method_4_code 29 = .ok (.iload_n 3, 1) := by decide +kernel
theorem d_RR_copy_30 : decode prog_1_method_4_code 30 = .ok (.aaload, 1) := by decide +kernel
theorem d_RR_copy_31 : decode prog_1_method_4_code 31 = .ok (.astore 7, 2) := by decide +kernel
theorem d_RR_copy_33 : decode prog_1_method_4_code 33 = .ok (.aload 6, 2) := by decide +kernel
theorem d_RR_copy_35 : decode prog_1_method_4_code 35 = .ok (.ifnull 8, 3) := by decide +kernel
theorem d_RR_copy_38 : decode prog_1_method_4_code 38 = .ok (.aload 7, 2) := by decide +kernel
theorem d_RR_copy_40 : decode prog_1_method_4_code 40 = .ok (.ifnonnull 9, 3) := by decide +kernel
theorem d_RR_copy_43 : decode prog_1_method_4_code 43 = .ok (.aload_n 0, 1) := by decide +kernel
theorem d_RR_copy_44 : decode prog_1_method_4_code 44 = .ok (.iconst 1, 1) := by decide +kernel
theorem d_RR_copy_45 : decode prog_1_method_4_code 45 = .ok (.invokevirtual 51, 3) := by decide +kernel
theorem d_RR_copy_48 : decode prog_1_method_4_code 48 = .ok (.ireturn, 1) := by decide +kernel
theorem d_RR_copy_49 : decode prog_1_method_4_code 49 = .ok (.aload 6, 2) := by decide +kernel
theorem d_RR_copy_51 : decode prog_1_method_4_code 51 = .ok (.getfield 71, 3) := by decide +kernel
theorem d_RR_copy_54 : decode prog_1_method_4_code 54 = .ok (.aload 7, 2) := by decide +kernel
theorem d_RR_copy_56 : decode prog_1_method_4_code 56 = .ok (.getfield 71, 3) := by decide +kernel
theorem d_RR_copy_59 : decode prog_1_method_4_code 59 = .ok (.if_icmp .eq 9, 3) := by decide +kernel
theorem d_RR_copy_62 : decode prog_1_method_4_code 62 = .ok (.aload_n 0, 1) := by decide +kernel
theorem d_RR_copy_63 : decode prog_1_method_4_code 63 = .ok (.iconst 5, 1) := by decide +kernel
theorem d_RR_copy_64 : decode prog_1_method_4_code 64 = .ok (.invokevirtual 51, 3) := by decide +kernel
theorem d_RR_copy_67 : decode prog_1_method_4_code 67 = .ok (.ireturn, 1) := by decide +kernel
theorem d_RR_copy_68 : decode prog_1_method_4_code 68 = .ok (.aload 6, 2) := by decide +kernel
theorem d_RR_copy_70 : decode prog_1_method_4_code 70 = .ok (.iload_n 2, 1) := by decide +kernel
theorem d_RR_copy_71 : decode prog_1_method_4_code 71 = .ok (.iload 5, 2) := by decide +kernel
theorem d_RR_copy_73 : decode prog_1_method_4_code 73 = .ok (.invokevirtual 61, 3) := by decide +kernel
theorem d_RR_copy_76 : decode prog_1_method_4_code 76 = .ok (.ifCond .eq 15, 3) := by decide +kernel
theorem d_RR_copy_79 : decode prog_1_method_4_code 79 = .ok (.aload 7, 2) := by decide +kernel
theorem d_RR_copy_81 : decode prog_1_method_4_code 81 = .ok (.iload 4, 2) := by decide +kernel
theorem d_RR_copy_83 : decode prog_1_method_4_code 83 = .ok (.iload 5, 2) := by decide +kernel
theorem d_RR_copy_85 : decode prog_1_method_4_code 85 = .ok (.invokevirtual 61, 3) := by decide +kernel
theorem d_RR_copy_88 : decode prog_1_method_4_code 88 = .ok (.ifCond .ne 9, 3) := by decide +kernel
theorem d_RR_copy_91 : decode prog_1_method_4_code 91 = .ok (.aload_n 0, 1) := by decide +kernel
theorem d_RR_copy_92 : decode prog_1_method_4_code 92 = .ok (.iconst 2, 1) := by decide +kernel
theorem d_RR_copy_93 : decode prog_1_method_4_code 93 = .ok (.invokevirtual 51, 3) := by decide +kernel
theorem d_RR_copy_96 : decode prog_1_method_4_code 96 = .ok (.ireturn, 1) := by decide +kernel
theorem d_RR_copy_97 : decode prog_1_method_4_code 97 = .ok (.aload 6, 2) := by decide +kernel
theorem d_RR_copy_99 : decode prog_1_method_4_code 99 = .ok (.getfield 65, 3) := by decide +kernel
theorem d_RR_copy_102 : decode prog_1_method_4_code 102 = .ok (.iload_n 2, 1) := by decide +kernel
theorem d_RR_copy_103 : decode prog_1_method_4_code 103 = .ok (.aload 7, 2) := by decide +kernel
theorem d_RR_copy_105 : decode prog_1_method_4_code 105 = .ok (.getfield 65, 3) := by decide +kernel
theorem d_RR_copy_108 : decode prog_1_method_4_code 108 = .ok (.iload 4, 2) := by decide +kernel
theorem d_RR_copy_110 : decode prog_1_method_4_code 110 = .ok (.iload 5, 2) := by decide +kernel
theorem d_RR_copy_112 : decode prog_1_method_4_code 112 = .ok (.invokestatic 74, 3) := by decide +kernel
theorem d_RR_copy_115 : decode prog_1_method_4_code 115 = .ok (.aload_n 0, 1) := by decide +kernel
theorem d_RR_copy_116 : decode prog_1_method_4_code 116 = .ok (.iload 5, 2) := by decide +kernel
theorem d_RR_copy_118 : decode prog_1_method_4_code 118 = .ok (.invokevirtual 58, 3) := by decide +kernel
theorem d_RR_copy_121 : decode prog_1_method_4_code 121 = .ok (.ireturn, 1) := by decide +kernel
theorem d_RR_drop_0 : decode prog_1_method_5_code 0 = .ok (.iload_n 1, 1) := by decide +kernel
theorem d_RR_drop_1 : decode prog_1_method_5_code 1 = .ok (.invokestatic 46, 3) := by decide +kernel
theorem d_RR_drop_4 : decode prog_1_method_5_code 4 = .ok (.ifCond .ne 6, 3) := by decide +kernel
theorem d_RR_drop_7 : decode prog_1_method_5_code 7 = .ok (.ldc 50, 2) := by decide +kernel
theorem d_RR_drop_9 : decode prog_1_method_5_code 9 = .ok (.ireturn, 1) := by decide +kernel
theorem d_RR_drop_10 : decode prog_1_method_5_code 10 = .ok (.aload_n 0, 1) := by decide +kernel
theorem d_RR_drop_11 : decode prog_1_method_5_code 11 = .ok (.getfield 11, 3) := by decide +kernel
theorem d_RR_drop_14 : decode prog_1_method_5_code 14 = .ok (.iload_n 1, 1) := by decide +kernel
theorem d_RR_drop_15 : decode prog_1_method_5_code 15 = .ok (.aaload, 1) := by decide +kernel
theorem d_RR_drop_16 : decode prog_1_method_5_code 16 = .ok (.astore_n 2, 1) := by decide +kernel
theorem d_RR_drop_17 : decode prog_1_method_5_code 17 = .ok (.aload_n 2, 1) := by decide +kernel
theorem d_RR_drop_18 : decode prog_1_method_5_code 18 = .ok (.ifnonnull 9, 3) := by decide +kernel
theorem d_RR_drop_21 : decode prog_1_method_5_code 21 = .ok (.aload_n 0, 1) := by decide +kernel
theorem d_RR_drop_22 : decode prog_1_method_5_code 22 = .ok (.iconst 1, 1) := by decide +kernel
theorem d_RR_drop_23 : decode prog_1_method_5_code 23 = .ok (.invokevirtual 51, 3) := by decide +kernel
theorem d_RR_drop_26 : decode prog_1_method_5_code 26 = .ok (.ireturn, 1) := by decide +kernel
theorem d_RR_drop_27 : decode prog_1_method_5_code 27 = .ok (.aload_n 0, 1) := by decide +kernel
theorem d_RR_drop_28 : decode prog_1_method_5_code 28 = .ok (.getfield 11, 3) := by decide +kernel
theorem d_RR_drop_31 : decode prog_1_method_5_code 31 = .ok (.iload_n 1, 1) := by decide +kernel
theorem d_RR_drop_32 : decode prog_1_method_5_code 32 = .ok (.aconst_null, 1) := by decide +kernel
theorem d_RR_drop_33 : decode prog_1_method_5_code 33 = .ok (.aastore, 1) := by decide +kernel
theorem d_RR_drop_34 : decode prog_1_method_5_code 34 = .ok (.aload_n 0, 1) := by decide +kernel
theorem d_RR_drop_35 : decode prog_1_method_5_code 35 = .ok (.aload_n 2, 1) := by decide +kernel
theorem d_RR_drop_36 : decode prog_1_method_5_code 36 = .ok (.getfield 65, 3) := by decide +kernel
theorem d_RR_drop_39 : decode prog_1_method_5_code 39 = .ok (.arraylength, 1) := by decide +kernel
theorem d_RR_drop_40 : decode prog_1_method_5_code 40 = .ok (.invokevirtual 58, 3) := by decide +kernel
theorem d_RR_drop_43 : decode prog_1_method_5_code 43 = .ok (.ireturn, 1) := by decide +kernel
theorem d_RR_row_0 : decode prog_1_method_6_code 0 = .ok (.iload_n 1, 1) := by decide +kernel
theorem d_RR_row_1 : decode prog_1_method_6_code 1 = .ok (.invokestatic 80, 3) := by decide +kernel
theorem d_RR_row_4 : decode prog_1_method_6_code 4 = .ok (.ifCond .eq 23, 3) := by decide +kernel
theorem d_RR_row_7 : decode prog_1_method_6_code 7 = .ok (.iload_n 2, 1) := by decide +kernel
theorem d_RR_row_8 : decode prog_1_method_6_code 8 = .ok (.invokestatic 46, 3) := by decide +kernel
theorem d_RR_row_11 : decode prog_1_method_6_code 11 = .ok (.ifCond .eq 16, 3) := by decide +kernel
theorem d_RR_row_14 : decode prog_1_method_6_code 14 = .ok (.iload 4, 2) := by decide +kernel
theorem d_RR_row_16 : decode prog_1_method_6_code 16 = .ok (.iconst 1, 1) := by decide +kernel
theorem d_RR_row_17 : decode prog_1_method_6_code 17 = .ok (.if_icmp .lt 10, 3) := by decide +kernel
theorem d_RR_row_20 : decode prog_1_method_6_code 20 = .ok (.iload 4, 2) := by decide +kernel
theorem d_RR_row_22 : decode prog_1_method_6_code 22 = .ok (.bipush 20, 2) := by decide +kernel
theorem d_RR_row_24 : decode prog_1_method_6_code 24 = .ok (.if_icmp .le 6, 3) := by decide +kernel
theorem d_RR_row_27 : decode prog_1_method_6_code 27 = .ok (.ldc 50, 2) := by decide +kernel
theorem d_RR_row_29 : decode prog_1_method_6_code 29 = .ok (.ireturn, 1) := by decide +kernel
theorem d_RR_row_30 : decode prog_1_method_6_code 30 = .ok (.aload_n 0, 1) := by decide +kernel
theorem d_RR_row_31 : decode prog_1_method_6_code 31 = .ok (.getfield 11, 3) := by decide +kernel
theorem d_RR_row_34 : decode prog_1_method_6_code 34 = .ok (.iload_n 2, 1) := by decide +kernel
theorem d_RR_row_35 : decode prog_1_method_6_code 35 = .ok (.aaload, 1) := by decide +kernel
theorem d_RR_row_36 : decode prog_1_method_6_code 36 = .ok (.astore 5, 2) := by decide +kernel
theorem d_RR_row_38 : decode prog_1_method_6_code 38 = .ok (.aload 5, 2) := by decide +kernel
theorem d_RR_row_40 : decode prog_1_method_6_code 40 = .ok (.ifnonnull 9, 3) := by decide +kernel
theorem d_RR_row_43 : decode prog_1_method_6_code 43 = .ok (.aload_n 0, 1) := by decide +kernel
theorem d_RR_row_44 : decode prog_1_method_6_code 44 = .ok (.iconst 1, 1) := by decide +kernel
theorem d_RR_row_45 : decode prog_1_method_6_code 45 = .ok (.invokevirtual 51, 3) := by decide +kernel
theorem d_RR_row_48 : decode prog_1_method_6_code 48 = .ok (.ireturn, 1) := by decide +kernel
theorem d_RR_row_49 : decode prog_1_method_6_code 49 = .ok (.aload 5, 2) := by decide +kernel
theorem d_RR_row_51 : decode prog_1_method_6_code 51 = .ok (.iload_n 3, 1) := by decide +kernel
theorem d_RR_row_52 : decode prog_1_method_6_code 52 = .ok (.iconst 2, 1) := by decide +kernel
theorem d_RR_row_53 : decode prog_1_method_6_code 53 = .ok (.iload 4, 2) := by decide +kernel
theorem d_RR_row_55 : decode prog_1_method_6_code 55 = .ok (.imul, 1) := by decide +kernel
theorem d_RR_row_56 : decode prog_1_method_6_code 56 = .ok (.invokevirtual 61, 3) := by decide +kernel
theorem d_RR_row_59 : decode prog_1_method_6_code 59 = .ok (.ifCond .ne 9, 3) := by decide +kernel
theorem d_RR_row_62 : decode prog_1_method_6_code 62 = .ok (.aload_n 0, 1) := by decide +kernel
theorem d_RR_row_63 : decode prog_1_method_6_code 63 = .ok (.iconst 2, 1) := by decide +kernel
theorem d_RR_row_64 : decode prog_1_method_6_code 64 = .ok (.invokevirtual 51, 3) := by decide +kernel
theorem d_RR_row_67 : decode prog_1_method_6_code 67 = .ok (.ireturn, 1) := by decide +kernel
theorem d_RR_row_68 : decode prog_1_method_6_code 68 = .ok (.lconst 0, 1) := by decide +kernel
theorem d_RR_row_69 : decode prog_1_method_6_code 69 = .ok (.lstore 6, 2) := by decide +kernel
theorem d_RR_row_71 : decode prog_1_method_6_code 71 = .ok (.iconst 0, 1) := by decide +kernel
theorem d_RR_row_72 : decode prog_1_method_6_code 72 = .ok (.istore 8, 2) := by decide +kernel
theorem d_RR_row_74 : decode prog_1_method_6_code 74 = .ok (.iload 8, 2) := by decide +kernel
theorem d_RR_row_76 : decode prog_1_method_6_code 76 = .ok (.iconst 2, 1) := by decide +kernel
theorem d_RR_row_77 : decode prog_1_method_6_code 77 = .ok (.iload 4, 2) := by decide +kernel
theorem d_RR_row_79 : decode prog_1_method_6_code 79 = .ok (.imul, 1) := by decide +kernel
theorem d_RR_row_80 : decode prog_1_method_6_code 80 = .ok (.if_icmp .ge 43, 3) := by decide +kernel
theorem d_RR_row_83 : decode prog_1_method_6_code 83 = .ok (.aload 5, 2) := by decide +kernel
theorem d_RR_row_85 : decode prog_1_method_6_code 85 = .ok (.getfield 65, 3) := by decide +kernel
theorem d_RR_row_88 : decode prog_1_method_6_code 88 = .ok (.iload_n 3, 1) := by decide +kernel
theorem d_RR_row_89 : decode prog_1_method_6_code 89 = .ok (.iload 8, 2) := by decide +kernel
theorem d_RR_row_91 : decode prog_1_method_6_code 91 = .ok (.iadd, 1) := by decide +kernel
theorem d_RR_row_92 : decode prog_1_method_6_code 92 = .ok (.iaload, 1) := by decide +kernel
theorem d_RR_row_93 : decode prog_1_method_6_code 93 = .ok (.istore 9, 2) := by decide +kernel
theorem d_RR_row_95 : decode prog_1_method_6_code 95 = .ok (.iload 9, 2) := by decide +kernel
theorem d_RR_row_97 : decode prog_1_method_6_code 97 = .ok (.ifCond .ne 6, 3) := by decide +kernel
theorem d_RR_row_100 : decode prog_1_method_6_code 100 = .ok (.ldc 50, 2) := by decide +kernel
theorem d_RR_row_102 : decode prog_1_method_6_code 102 = .ok (.ireturn, 1) := by decide +kernel
theorem d_RR_row_103 : decode prog_1_method_6_code 103 = .ok (.iload 9, 2) := by decide +kernel
theorem d_RR_row_105 : decode prog_1_method_6_code 105 = .ok (.ifCond .le 12, 3) := by decide +kernel
theorem d_RR_row_108 : decode prog_1_method_6_code 108 = .ok (.lload 6, 2) := by decide +kernel
theorem d_RR_row_110 : decode prog_1_method_6_code 110 = .ok (.lconst 1, 1) := by decide +kernel
theorem d_RR_row_111 : decode prog_1_method_6_code 111 = .ok (.iload 8, 2) := by decide +kernel
theorem d_RR_row_113 : decode prog_1_method_6_code 113 = .ok (.lshl, 1) := by decide +kernel
theorem d_RR_row_114 : decode prog_1_method_6_code 114 = .ok (.lor, 1) := by decide +kernel
theorem d_RR_row_115 : decode prog_1_method_6_code 115 = .ok (.lstore 6, 2) := by decide +kernel
theorem d_RR_row_117 : decode prog_1_method_6_code 117 = .ok (.iinc 8 1, 3) := by decide +kernel
theorem d_RR_row_120 : decode prog_1_method_6_code 120 = .ok (.goto (-46), 3) := by decide +kernel
theorem d_RR_row_123 : decode prog_1_method_6_code 123 = .ok (.aload_n 0, 1) := by decide +kernel
theorem d_RR_row_124 : decode prog_1_method_6_code 124 = .ok (.iload_n 1, 1) := by decide +kernel
theorem d_RR_row_125 : decode prog_1_method_6_code 125 = .ok (.iload 4, 2) := by decide +kernel
theorem d_RR_row_127 : decode prog_1_method_6_code 127 = .ok (.lload 6, 2) := by decide +kernel
theorem d_RR_row_129 : decode prog_1_method_6_code 129 = .ok (.invokestatic 83, 3) := by decide +kernel
theorem d_RR_row_132 : decode prog_1_method_6_code 132 = .ok (.invokevirtual 87, 3) := by decide +kernel
theorem d_RR_row_135 : decode prog_1_method_6_code 135 = .ok (.ireturn, 1) := by decide +kernel
theorem d_RR_isPlace_0 : decode prog_1_method_37_code 0 = .ok (.iload_n 0, 1) := by decide +kernel
theorem d_RR_isPlace_1 : decode prog_1_method_37_code 1 = .ok (.ifCond .lt 13, 3) := by decide +kernel
theorem d_RR_isPlace_4 : decode prog_1_method_37_code 4 = .ok (.iload_n 0, 1) := by decide +kernel
theorem d_RR_isPlace_5 : decode prog_1_method_37_code 5 = .ok (.bipush 10, 2) := by decide +kernel
theorem d_RR_isPlace_7 : decode prog_1_method_37_code 7 = .ok (.if_icmp .ge 7, 3) := by decide +kernel
theorem d_RR_isPlace_10 : decode prog_1_method_37_code 10 = .ok (.iconst 1, 1) := by decide +kernel
theorem d_RR_isPlace_11 : decode prog_1_method_37_code 11 = .ok (.goto 4, 3) := by decide +kernel
theorem d_RR_isPlace_14 : decode prog_1_method_37_code 14 = .ok (.iconst 0, 1) := by decide +kernel
theorem d_RR_isPlace_15 : decode prog_1_method_37_code 15 = .ok (.ireturn, 1) := by decide +kernel
theorem d_RR_rowOf_0 : decode prog_1_method_42_code 0 = .ok (.iload_n 0, 1) := by decide +kernel
theorem d_RR_rowOf_1 : decode prog_1_method_42_code 1 = .ok (.lload_n 1, 1) := by decide +kernel
theorem d_RR_rowOf_2 : decode prog_1_method_42_code 2 = .ok (.invokestatic 239, 3) := by decide +kernel
theorem d_RR_rowOf_5 : decode prog_1_method_42_code 5 = .ok (.ifCond .eq 11, 3) := by decide +kernel
theorem d_RR_rowOf_8 : decode prog_1_method_42_code 8 = .ok (.iload_n 0, 1) := by decide +kernel
theorem d_RR_rowOf_9 : decode prog_1_method_42_code 9 = .ok (.lload_n 1, 1) := by decide +kernel
theorem d_RR_rowOf_10 : decode prog_1_method_42_code 10 = .ok (.invokestatic 122, 3) := by decide +kernel
theorem d_RR_rowOf_13 : decode prog_1_method_42_code 13 = .ok (.goto 12, 3) := by decide +kernel
theorem d_RR_rowOf_16 : decode prog_1_method_42_code 16 = .ok (.new 171, 3) := by decide +kernel
theorem d_RR_rowOf_19 : decode prog_1_method_42_code 19 = .ok (.dup, 1) := by decide +kernel
theorem d_RR_rowOf_20 : decode prog_1_method_42_code 20 = .ok (.iload_n 0, 1) := by decide +kernel
theorem d_RR_rowOf_21 : decode prog_1_method_42_code 21 = .ok (.lload_n 1, 1) := by decide +kernel
theorem d_RR_rowOf_22 : decode prog_1_method_42_code 22 = .ok (.invokespecial 243, 3) := by decide +kernel
theorem d_RR_rowOf_25 : decode prog_1_method_42_code 25 = .ok (.areturn, 1) := by decide +kernel
theorem d_RR_areArches_0 : decode prog_1_method_43_code 0 = .ok (.iconst 0, 1) := by decide +kernel
theorem d_RR_areArches_1 : decode prog_1_method_43_code 1 = .ok (.istore_n 3, 1) := by decide +kernel
theorem d_RR_areArches_2 : decode prog_1_method_43_code 2 = .ok (.iconst 0, 1) := by decide +kernel
theorem d_RR_areArches_3 : decode prog_1_method_43_code 3 = .ok (.istore 4, 2) := by decide +kernel
theorem d_RR_areArches_5 : decode prog_1_method_43_code 5 = .ok (.iload 4, 2) := by decide +kernel
theorem d_RR_areArches_7 : decode prog_1_method_43_code 7 = .ok (.iconst 2, 1) := by decide +kernel
theorem d_RR_areArches_8 : decode prog_1_method_43_code 8 = .ok (.iload_n 0, 1) := by decide +kernel
theorem d_RR_areArches_9 : decode prog_1_method_43_code 9 = .ok (.imul, 1) := by decide +kernel
theorem d_RR_areArches_10 : decode prog_1_method_43_code 10 = .ok (.if_icmp .ge 32, 3) := by decide +kernel
theorem d_RR_areArches_13 : decode prog_1_method_43_code 13 = .ok (.iload_n 3, 1) := by decide +kernel
theorem d_RR_areArches_14 : decode prog_1_method_43_code 14 = .ok (.lload_n 1, 1) := by decide +kernel
theorem d_RR_areArches_15 : decode prog_1_method_43_code 15 = .ok (.iload 4, 2) := by decide +kernel
theorem d_RR_areArches_17 : decode prog_1_method_43_code 17 = .ok (.invokestatic 178, 3) := by decide +kernel
theorem d_RR_areArches_20 : decode prog_1_method_43_code 20 = .ok (.ifCond .eq 7, 3) := by decide +kernel
theorem d_RR_areArches_23 : decode prog_1_method_43_code 23 = .ok (.iconst 1, 1) := by decide +kernel
theorem d_RR_areArches_24 : decode prog_1_method_43_code 24 = .ok (.goto 4, 3) := by decide +kernel
theorem d_RR_areArches_27 : decode prog_1_method_43_code 27 = .ok (.iconst (-1), 1) := by decide +kernel
theorem d_RR_areArches_28 : decode prog_1_method_43_code 28 = .ok (.iadd, 1) := by decide +kernel
theorem d_RR_areArches_29 : decode prog_1_method_43_code 29 = .ok (.istore_n 3, 1) := by decide +kernel
theorem d_RR_areArches_30 : decode prog_1_method_43_code 30 = .ok (.iload_n 3, 1) := by decide +kernel
theorem d_RR_areArches_31 : decode prog_1_method_43_code 31 = .ok (.ifCond .ge 5, 3) := by decide +kernel
theorem d_RR_areArches_34 : decode prog_1_method_43_code 34 = .ok (.iconst 0, 1) := by decide +kernel
theorem d_RR_areArches_35 : decode prog_1_method_43_code 35 = .ok (.ireturn, 1) := by decide +kernel
theorem d_RR_areArches_36 : decode prog_1_method_43_code 36 = .ok (.iinc 4 1, 3) := by decide +kernel
theorem d_RR_areArches_39 : decode prog_1_method_43_code 39 = .ok (.goto (-34), 3) := by decide +kernel
theorem d_RR_areArches_42 : decode prog_1_method_43_code 42 = .ok (.iload_n 3, 1) := by decide +kernel
theorem d_RR_areArches_43 : decode prog_1_method_43_code 43 = .ok (.ifCond .ne 7, 3) := by decide +kernel
theorem d_RR_areArches_46 : decode prog_1_method_43_code 46 = .ok (.iconst 1, 1) := by decide +kernel
theorem d_RR_areArches_47 : decode prog_1_method_43_code 47 = .ok (.goto 4, 3) := by decide +kernel
theorem d_RR_areArches_50 : decode prog_1_method_43_code 50 = .ok (.iconst 0, 1) := by decide +kernel
theorem d_RR_areArches_51 : decode prog_1_method_43_code 51 = .ok (.ireturn, 1) := by decide +kernel
theorem d_RR_isPlus_0 : decode prog_1_method_39_code 0 = .ok (.lload_n 0, 1) := by decide +kernel
theorem d_RR_isPlus_1 : decode prog_1_method_39_code 1 = .ok (.iload_n 2, 1) := by decide +kernel
theorem d_RR_isPlus_2 : decode prog_1_method_39_code 2 = .ok (.lshr, 1) := by decide +kernel
theorem d_RR_isPlus_3 : decode prog_1_method_39_code 3 = .ok (.lconst 1, 1) := by decide +kernel
theorem d_RR_isPlus_4 : decode prog_1_method_39_code 4 = .ok (.land, 1) := by decide +kernel
theorem d_RR_isPlus_5 : decode prog_1_method_39_code 5 = .ok (.lconst 0, 1) := by decide +kernel
theorem d_RR_isPlus_6 : decode prog_1_method_39_code 6 = .ok (.lcmp, 1) := by decide +kernel
theorem d_RR_isPlus_7 : decode prog_1_method_39_code 7 = .ok (.ifCond .eq 7, 3) := by decide +kernel
theorem d_RR_isPlus_10 : decode prog_1_method_39_code 10 = .ok (.iconst 1, 1) := by decide +kernel
theorem d_RR_isPlus_11 : decode prog_1_method_39_code 11 = .ok (.goto 4, 3) := by decide +kernel
theorem d_RR_isPlus_14 : decode prog_1_method_39_code 14 = .ok (.iconst 0, 1) := by decide +kernel
theorem d_RR_isPlus_15 : decode prog_1_method_39_code 15 = .ok (.ireturn, 1) := by decide +kernel
theorem d_RR_archesOf_0 : decode prog_1_method_44_code 0 = .ok (.iload_n 0, 1) := by decide +kernel
theorem d_RR_archesOf_1 : decode prog_1_method_44_code 1 = .ok (.lload_n 1, 1) := by decide +kernel
theorem d_RR_archesOf_2 : decode prog_1_method_44_code 2 = .ok (.invokestatic 246, 3) := by decide +kernel
theorem d_RR_archesOf_5 : decode prog_1_method_44_code 5 = .ok (.astore_n 3, 1) := by decide +kernel
theorem d_RR_archesOf_6 : decode prog_1_method_44_code 6 = .ok (.lload_n 1, 1) := by decide +kernel
theorem d_RR_archesOf_7 : decode prog_1_method_44_code 7 = .ok (.ldc2_w 250, 3) := by decide +kernel
theorem d_RR_archesOf_10 : decode prog_1_method_44_code 10 = .ok (.lconst 1, 1) := by decide +kernel
theorem d_RR_archesOf_11 : decode prog_1_method_44_code 11 = .ok (.iconst 2, 1) := by decide +kernel
theorem d_RR_archesOf_12 : decode prog_1_method_44_code 12 = .ok (.iload_n 0, 1) := by decide +kernel
theorem d_RR_archesOf_13 : decode prog_1_method_44_code 13 = .ok (.imul, 1) := by decide +kernel
theorem d_RR_archesOf_14 : decode prog_1_method_44_code 14 = .ok (.lshl, 1) := by decide +kernel
theorem d_RR_archesOf_15 : decode prog_1_method_44_code 15 = .ok (.lconst 1, 1) := by decide +kernel
theorem d_RR_archesOf_16 : decode prog_1_method_44_code 16 = .ok (.lsub, 1) := by decide +kernel
theorem d_RR_archesOf_17 : decode prog_1_method_44_code 17 = .ok (.land, 1) := by decide +kernel
theorem d_RR_archesOf_18 : decode prog_1_method_44_code 18 = .ok (.lcmp, 1) := by decide +kernel
theorem d_RR_archesOf_19 : decode prog_1_method_44_code 19 = .ok (.ifCond .ne 14, 3) := by decide +kernel
theorem d_RR_archesOf_22 : decode prog_1_method_44_code 22 = .ok (.new 233, 3) := by decide +kernel
theorem d_RR_archesOf_25 : decode prog_1_method_44_code 25 = .ok (.dup, 1) := by decide +kernel
theorem d_RR_archesOf_26 : decode prog_1_method_44_code 26 = .ok (.iload_n 0, 1) := by decide +kernel
theorem d_RR_archesOf_27 : decode prog_1_method_44_code 27 = .ok (.lload_n 1, 1) := by decide +kernel
theorem d_RR_archesOf_28 : decode prog_1_method_44_code 28 = .ok (.aload_n 3, 1) := by decide +kernel
theorem d_RR_archesOf_29 : decode prog_1_method_44_code 29 = .ok (.invokespecial 252, 3) := by decide +kernel
theorem d_RR_archesOf_32 : decode prog_1_method_44_code 32 = .ok (.areturn, 1) := by decide +kernel
theorem d_RR_archesOf_33 : decode prog_1_method_44_code 33 = .ok (.lload_n 1, 1) := by decide +kernel
theorem d_RR_archesOf_34 : decode prog_1_method_44_code 34 = .ok (.lconst 1, 1) := by decide +kernel
theorem d_RR_archesOf_35 : decode prog_1_method_44_code 35 = .ok (.iload_n 0, 1) := by decide +kernel
theorem d_RR_archesOf_36 : decode prog_1_method_44_code 36 = .ok (.lshl, 1) := by decide +kernel
theorem d_RR_archesOf_37 : decode prog_1_method_44_code 37 = .ok (.lconst 1, 1) := by decide +kernel
theorem d_RR_archesOf_38 : decode prog_1_method_44_code 38 = .ok (.lsub, 1) := by decide +kernel
theorem d_RR_archesOf_39 : decode prog_1_method_44_code 39 = .ok (.lcmp, 1) := by decide +kernel
theorem d_RR_archesOf_40 : decode prog_1_method_44_code 40 = .ok (.ifCond .ne 14, 3) := by decide +kernel
theorem d_RR_archesOf_43 : decode prog_1_method_44_code 43 = .ok (.new 231, 3) := by decide +kernel
theorem d_RR_archesOf_46 : decode prog_1_method_44_code 46 = .ok (.dup, 1) := by decide +kernel
theorem d_RR_archesOf_47 : decode prog_1_method_44_code 47 = .ok (.iload_n 0, 1) := by decide +kernel
theorem d_RR_archesOf_48 : decode prog_1_method_44_code 48 = .ok (.lload_n 1, 1) := by decide +kernel
theorem d_RR_archesOf_49 : decode prog_1_method_44_code 49 = .ok (.aload_n 3, 1) := by decide +kernel
theorem d_RR_archesOf_50 : decode prog_1_method_44_code 50 = .ok (.invokespecial 255, 3) := by decide +kernel
theorem d_RR_archesOf_53 : decode prog_1_method_44_code 53 = .ok (.areturn, 1) := by decide +kernel
theorem d_RR_archesOf_54 : decode prog_1_method_44_code 54 = .ok (.new 91, 3) := by decide +kernel
theorem d_RR_archesOf_57 : decode prog_1_method_44_code 57 = .ok (.dup, 1) := by decide +kernel
theorem d_RR_archesOf_58 : decode prog_1_method_44_code 58 = .ok (.iload_n 0, 1) := by decide +kernel
theorem d_RR_archesOf_59 : decode prog_1_method_44_code 59 = .ok (.lload_n 1, 1) := by decide +kernel
theorem d_RR_archesOf_60 : decode prog_1_method_44_code 60 = .ok (.aload_n 3, 1) := by decide +kernel
theorem d_RR_archesOf_61 : decode prog_1_method_44_code 61 = .ok (.invokespecial 256, 3) := by decide +kernel
theorem d_RR_archesOf_64 : decode prog_1_method_44_code 64 = .ok (.areturn, 1) := by decide +kernel
theorem d_RR_partnersOf_0 : decode prog_1_method_45_code 0 = .ok (.iconst 2, 1) := by decide +kernel
theorem d_RR_partnersOf_1 : decode prog_1_method_45_code 1 = .ok (.iload_n 0, 1) := by decide +kernel
theorem d_RR_partnersOf_2 : decode prog_1_method_45_code 2 = .ok (.imul, 1) := by decide +kernel
theorem d_RR_partnersOf_3 : decode prog_1_method_45_code 3 = .ok (.newarray .int, 2) := by decide +kernel
theorem d_RR_partnersOf_5 : decode prog_1_method_45_code 5 = .ok (.astore_n 3, 1) := by decide +kernel
theorem d_RR_partnersOf_6 : decode prog_1_method_45_code 6 = .ok (.iconst (-1), 1) := by decide +kernel
theorem d_RR_partnersOf_7 : decode prog_1_method_45_code 7 = .ok (.istore 4, 2) := by decide +kernel
theorem d_RR_partnersOf_9 : decode prog_1_method_45_code 9 = .ok (.iconst 0, 1) := by decide +kernel
theorem d_RR_partnersOf_10 : decode prog_1_method_45_code 10 = .ok (.istore 5, 2) := by decide +kernel
theorem d_RR_partnersOf_12 : decode prog_1_method_45_code 12 = .ok (.iload 5, 2) := by decide +kernel
theorem d_RR_partnersOf_14 : decode prog_1_method_45_code 14 = .ok (.iconst 2, 1) := by decide +kernel
theorem d_RR_partnersOf_15 : decode prog_1_method_45_code 15 = .ok (.iload_n 0, 1) := by decide +kernel
theorem d_RR_partnersOf_16 : decode prog_1_method_45_code 16 = .ok (.imul, 1) := by decide +kernel
theorem d_RR_partnersOf_17 : decode prog_1_method_45_code 17 = .ok (.if_icmp .ge 58, 3) := by decide +kernel
theorem d_RR_partnersOf_20 : decode prog_1_method_45_code 20 = .ok (.lload_n 1, 1) := by decide +kernel
theorem d_RR_partnersOf_21 : decode prog_1_method_45_code 21 = .ok (.iload 5, 2) := by decide +kernel
theorem d_RR_partnersOf_23 : decode prog_1_method_45_code 23 = .ok (.invokestatic 178, 3) := by decide +kernel
theorem d_RR_partnersOf_26 : decode prog_1_method_45_code 26 = .ok (.ifCond .eq 16, 3) := by decide +kernel
theorem d_RR_partnersOf_29 : decode prog_1_method_45_code 29 = .ok (.aload_n 3, 1) := by decide +kernel
theorem d_RR_partnersOf_30 : decode prog_1_method_45_code 30 = .ok (.iload 5, 2) := by decide +kernel
theorem d_RR_partnersOf_32 : decode prog_1_method_45_code 32 = .ok (.iload 4, 2) := by decide +kernel
theorem d_RR_partnersOf_34 : decode prog_1_method_45_code 34 = .ok (.iastore, 1) := by decide +kernel
theorem d_RR_partnersOf_35 : decode prog_1_method_45_code 35 = .ok (.iload 5, 2) := by decide +kernel
theorem d_RR_partnersOf_37 : decode prog_1_method_45_code 37 = .ok (.istore 4, 2) := by decide +kernel
theorem d_RR_partnersOf_39 : decode prog_1_method_45_code 39 = .ok (.goto 30, 3) := by decide +kernel
theorem d_RR_partnersOf_42 : decode prog_1_method_45_code 42 = .ok (.iload 4, 2) := by decide +kernel
theorem d_RR_partnersOf_44 : decode prog_1_method_45_code 44 = .ok (.ifCond .lt 25, 3) := by decide +kernel
theorem d_RR_partnersOf_47 : decode prog_1_method_45_code 47 = .ok (.iload 4, 2) := by decide +kernel
theorem d_RR_partnersOf_49 : decode prog_1_method_45_code 49 = .ok (.istore 6, 2) := by decide +kernel
theorem d_RR_partnersOf_51 : decode prog_1_method_45_code 51 = .ok (.aload_n 3, 1) := by decide +kernel
theorem d_RR_partnersOf_52 : decode prog_1_method_45_code 52 = .ok (.iload 6, 2) := by decide +kernel
theorem d_RR_partnersOf_54 : decode prog_1_method_45_code 54 = .ok (.iaload, 1) := by decide +kernel
theorem d_RR_partnersOf_55 : decode prog_1_method_45_code 55 = .ok (.istore 4, 2) := by decide +kernel
theorem d_RR_partnersOf_57 : decode prog_1_method_45_code 57 = .ok (.aload_n 3, 1) := by decide +kernel
theorem d_RR_partnersOf_58 : decode prog_1_method_45_code 58 = .ok (.iload 6, 2) := by decide +kernel
theorem d_RR_partnersOf_60 : decode prog_1_method_45_code 60 = .ok (.iload 5, 2) := by decide +kernel
theorem d_RR_partnersOf_62 : decode prog_1_method_45_code 62 = .ok (.iastore, 1) := by decide +kernel
theorem d_RR_partnersOf_63 : decode prog_1_method_45_code 63 = .ok (.aload_n 3, 1) := by decide +kernel
theorem d_RR_partnersOf_64 : decode prog_1_method_45_code 64 = .ok (.iload 5, 2) := by decide +kernel
theorem d_RR_partnersOf_66 : decode prog_1_method_45_code 66 = .ok (.iload 6, 2) := by decide +kernel
theorem d_RR_partnersOf_68 : decode prog_1_method_45_code 68 = .ok (.iastore, 1) := by decide +kernel
theorem d_RR_partnersOf_69 : decode prog_1_method_45_code 69 = .ok (.iinc 5 1, 3) := by decide +kernel
theorem d_RR_partnersOf_72 : decode prog_1_method_45_code 72 = .ok (.goto (-60), 3) := by decide +kernel
theorem d_RR_partnersOf_75 : decode prog_1_method_45_code 75 = .ok (.aload_n 3, 1) := by decide +kernel
theorem d_RR_partnersOf_76 : decode prog_1_method_45_code 76 = .ok (.areturn, 1) := by decide +kernel
theorem d_Pe_init_0 : decode prog_7_method_1_code 0 = .ok (.aload_n 0, 1) := by decide +kernel
theorem d_Pe_init_1 : decode prog_7_method_1_code 1 = .ok (.iload_n 1, 1) := by decide +kernel
theorem d_Pe_init_2 : decode prog_7_method_1_code 2 = .ok (.lload_n 2, 1) := by decide +kernel
theorem d_Pe_init_3 : decode prog_7_method_1_code 3 = .ok (.aload 4, 2) := by decide +kernel
theorem d_Pe_init_5 : decode prog_7_method_1_code 5 = .ok (.invokespecial 1, 3) := by decide +kernel
theorem d_Pe_init_8 : decode prog_7_method_1_code 8 = .ok (.return_, 1) := by decide +kernel
theorem d_Ar_init_0 : decode prog_2_method_1_code 0 = .ok (.aload_n 0, 1) := by decide +kernel
theorem d_Ar_init_1 : decode prog_2_method_1_code 1 = .ok (.iload_n 1, 1) := by decide +kernel
theorem d_Ar_init_2 : decode prog_2_method_1_code 2 = .ok (.lload_n 2, 1) := by decide +kernel
theorem d_Ar_init_3 : decode prog_2_method_1_code 3 = .ok (.invokespecial 1, 3) := by decide +kernel
theorem d_Ar_init_6 : decode prog_2_method_1_code 6 = .ok (.aload_n 0, 1) := by decide +kernel
theorem d_Ar_init_7 : decode prog_2_method_1_code 7 = .ok (.aload 4, 2) := by decide +kernel
theorem d_Ar_init_9 : decode prog_2_method_1_code 9 = .ok (.putfield 7, 3) := by decide +kernel
theorem d_Ar_init_12 : decode prog_2_method_1_code 12 = .ok (.return_, 1) := by decide +kernel
theorem d_Row_init_0 : decode prog_8_method_1_code 0 = .ok (.aload_n 0, 1) := by decide +kernel
theorem d_Row_init_1 : decode prog_8_method_1_code 1 = .ok (.iload_n 1, 1) := by decide +kernel
theorem d_Row_init_2 : decode prog_8_method_1_code 2 = .ok (.invokespecial 1, 3) := by decide +kernel
theorem d_Row_init_5 : decode prog_8_method_1_code 5 = .ok (.aload_n 0, 1) := by decide +kernel
theorem d_Row_init_6 : decode prog_8_method_1_code 6 = .ok (.lload_n 2, 1) := by decide +kernel
theorem d_Row_init_7 : decode prog_8_method_1_code 7 = .ok (.putfield 7, 3) := by decide +kernel
theorem d_Row_init_10 : decode prog_8_method_1_code 10 = .ok (.return_, 1) := by decide +kernel
theorem d_Th_init_0 : decode prog_11_method_1_code 0 = .ok (.aload_n 0, 1) := by decide +kernel
theorem d_Th_init_1 : decode prog_11_method_1_code 1 = .ok (.invokespecial 1, 3) := by decide +kernel
theorem d_Th_init_4 : decode prog_11_method_1_code 4 = .ok (.aload_n 0, 1) := by decide +kernel
theorem d_Th_init_5 : decode prog_11_method_1_code 5 = .ok (.iload_n 1, 1) := by decide +kernel
theorem d_Th_init_6 : decode prog_11_method_1_code 6 = .ok (.putfield 7, 3) := by decide +kernel
theorem d_Th_init_9 : decode prog_11_method_1_code 9 = .ok (.return_, 1) := by decide +kernel
theorem d_Ne_init_0 : decode prog_6_method_1_code 0 = .ok (.aload_n 0, 1) := by decide +kernel
theorem d_Ne_init_1 : decode prog_6_method_1_code 1 = .ok (.iload_n 1, 1) := by decide +kernel
theorem d_Ne_init_2 : decode prog_6_method_1_code 2 = .ok (.lload_n 2, 1) := by decide +kernel
theorem d_Ne_init_3 : decode prog_6_method_1_code 3 = .ok (.aload 4, 2) := by decide +kernel
theorem d_Ne_init_5 : decode prog_6_method_1_code 5 = .ok (.invokespecial 1, 3) := by decide +kernel
theorem d_Ne_init_8 : decode prog_6_method_1_code 8 = .ok (.return_, 1) := by decide +kernel
theorem d_RR_shelve_0 : decode prog_1_method_35_code 0 = .ok (.aload_n 0, 1) := by decide +kernel
theorem d_RR_shelve_1 : decode prog_1_method_35_code 1 = .ok (.getfield 17, 3) := by decide +kernel
theorem d_RR_shelve_4 : decode prog_1_method_35_code 4 = .ok (.iload_n 1, 1) := by decide +kernel
theorem d_RR_shelve_5 : decode prog_1_method_35_code 5 = .ok (.aload_n 2, 1) := by decide +kernel
theorem d_RR_shelve_6 : decode prog_1_method_35_code 6 = .ok (.aastore, 1) := by decide +kernel
theorem d_RR_shelve_7 : decode prog_1_method_35_code 7 = .ok (.aload_n 0, 1) := by decide +kernel
theorem d_RR_shelve_8 : decode prog_1_method_35_code 8 = .ok (.aload_n 2, 1) := by decide +kernel
theorem d_RR_shelve_9 : decode prog_1_method_35_code 9 = .ok (.invokevirtual 146, 3) := by decide +kernel
theorem d_RR_shelve_12 : decode prog_1_method_35_code 12 = .ok (.invokevirtual 58, 3) := by decide +kernel
theorem d_RR_shelve_15 : decode prog_1_method_35_code 15 = .ok (.ireturn, 1) := by decide +kernel
theorem d_Ar_told_0 : decode prog_2_method_2_code 0 = .ok (.iconst 2, 1) := by decide +kernel
theorem d_Ar_told_1 : decode prog_2_method_2_code 1 = .ok (.ireturn, 1) := by decide +kernel
theorem d_Fo_told_0 : decode prog_3_method_2_code 0 = .ok (.bipush 8, 2) := by decide +kernel
theorem d_Fo_told_2 : decode prog_3_method_2_code 2 = .ok (.ireturn, 1) := by decide +kernel
theorem d_La_told_0 : decode prog_4_method_3_code 0 = .ok (.iconst 5, 1) := by decide +kernel
theorem d_La_told_1 : decode prog_4_method_3_code 1 = .ok (.ireturn, 1) := by decide +kernel
theorem d_Lo_told_0 : decode prog_5_method_2_code 0 = .ok (.bipush 6, 2) := by decide +kernel
theorem d_Lo_told_2 : decode prog_5_method_2_code 2 = .ok (.ireturn, 1) := by decide +kernel
theorem d_Ne_told_0 : decode prog_6_method_2_code 0 = .ok (.iconst 3, 1) := by decide +kernel
theorem d_Ne_told_1 : decode prog_6_method_2_code 1 = .ok (.ireturn, 1) := by decide +kernel
theorem d_Pe_told_0 : decode prog_7_method_2_code 0 = .ok (.iconst 4, 1) := by decide +kernel
theorem d_Pe_told_1 : decode prog_7_method_2_code 1 = .ok (.ireturn, 1) := by decide +kernel
theorem d_Row_told_0 : decode prog_8_method_2_code 0 = .ok (.iconst 1, 1) := by decide +kernel
theorem d_Row_told_1 : decode prog_8_method_2_code 1 = .ok (.ireturn, 1) := by decide +kernel
theorem d_St_told_0 : decode prog_10_method_2_code 0 = .ok (.bipush 7, 2) := by decide +kernel
theorem d_St_told_2 : decode prog_10_method_2_code 2 = .ok (.ireturn, 1) := by decide +kernel
theorem d_RR_land_0 : decode prog_1_method_7_code 0 = .ok (.iload_n 1, 1) := by decide +kernel
theorem d_RR_land_1 : decode prog_1_method_7_code 1 = .ok (.invokestatic 80, 3) := by decide +kernel
theorem d_RR_land_4 : decode prog_1_method_7_code 4 = .ok (.ifCond .eq 17, 3) := by decide +kernel
theorem d_RR_land_7 : decode prog_1_method_7_code 7 = .ok (.iload_n 2, 1) := by decide +kernel
theorem d_RR_land_8 : decode prog_1_method_7_code 8 = .ok (.invokestatic 80, 3) := by decide +kernel
theorem d_RR_land_11 : decode prog_1_method_7_code 11 = .ok (.ifCond .eq 10, 3) := by decide +kernel
theorem d_RR_land_14 : decode prog_1_method_7_code 14 = .ok (.iload_n 3, 1) := by decide +kernel
theorem d_RR_land_15 : decode prog_1_method_7_code 15 = .ok (.invokestatic 80, 3) := by decide +kernel
theorem d_RR_land_18 : decode prog_1_method_7_code 18 = .ok (.ifCond .ne 6, 3) := by decide +kernel
theorem d_RR_land_21 : decode prog_1_method_7_code 21 = .ok (.ldc 50, 2) := by decide +kernel
theorem d_RR_land_23 : decode prog_1_method_7_code 23 = .ok (.ireturn, 1) := by decide +kernel
theorem d_RR_land_24 : decode prog_1_method_7_code 24 = .ok (.aload_n 0, 1) := by decide +kernel
theorem d_RR_land_25 : decode prog_1_method_7_code 25 = .ok (.getfield 17, 3) := by decide +kernel
theorem d_RR_land_28 : decode prog_1_method_7_code 28 = .ok (.iload_n 2, 1) := by decide +kernel
theorem d_RR_land_29 : decode prog_1_method_7_code 29 = .ok (.aaload, 1) := by decide +kernel
theorem d_RR_land_30 : decode prog_1_method_7_code 30 = .ok (.astore 5, 2) := by decide +kernel
theorem d_RR_land_32 : decode prog_1_method_7_code 32 = .ok (.aload 5, 2) := by decide +kernel
theorem d_RR_land_34 : decode prog_1_method_7_code 34 = .ok (.instanceof 91, 3) := by decide +kernel
theorem d_RR_land_37 : decode prog_1_method_7_code 37 = .ok (.ifCond .eq 13, 3) := by decide +kernel
theorem d_RR_land_40 : decode prog_1_method_7_code 40 = .ok (.aload 5, 2) := by decide +kernel
theorem d_RR_land_42 : decode prog_1_method_7_code 42 = .ok (.checkcast 91, 3) := by decide +kernel
theorem d_RR_land_45 : decode prog_1_method_7_code 45 = .ok (.astore 4, 2) := by decide +kernel
theorem d_RR_land_47 : decode prog_1_method_7_code 47 = .ok (.goto 9, 3) := by decide +kernel
theorem d_RR_land_50 : decode prog_1_method_7_code 50 = .ok (.aload_n 0, 1) := by decide +kernel
theorem d_RR_land_51 : decode prog_1_method_7_code 51 = .ok (.iload_n 2, 1) := by decide +kernel
theorem d_RR_land_52 : decode prog_1_method_7_code 52 = .ok (.invokevirtual 93, 3) := by decide +kernel
theorem d_RR_land_55 : decode prog_1_method_7_code 55 = .ok (.ireturn, 1) := by decide +kernel
theorem d_RR_land_56 : decode prog_1_method_7_code 56 = .ok (.aload_n 0, 1) := by decide +kernel
theorem d_RR_land_57 : decode prog_1_method_7_code 57 = .ok (.getfield 17, 3) := by decide +kernel
theorem d_RR_land_60 : decode prog_1_method_7_code 60 = .ok (.iload_n 3, 1) := by decide +kernel
theorem d_RR_land_61 : decode prog_1_method_7_code 61 = .ok (.aaload, 1) := by decide +kernel
theorem d_RR_land_62 : decode prog_1_method_7_code 62 = .ok (.astore 6, 2) := by decide +kernel
theorem d_RR_land_64 : decode prog_1_method_7_code 64 = .ok (.aload 6, 2) := by decide +kernel
theorem d_RR_land_66 : decode prog_1_method_7_code 66 = .ok (.instanceof 91, 3) := by decide +kernel
theorem d_RR_land_69 : decode prog_1_method_7_code 69 = .ok (.ifCond .eq 13, 3) := by decide +kernel
theorem d_RR_land_72 : decode prog_1_method_7_code 72 = .ok (.aload 6, 2) := by decide +kernel
theorem d_RR_land_74 : decode prog_1_method_7_code 74 = .ok (.checkcast 91, 3) := by decide +kernel
theorem d_RR_land_77 : decode prog_1_method_7_code 77 = .ok (.astore 5, 2) := by decide +kernel
theorem d_RR_land_79 : decode prog_1_method_7_code 79 = .ok (.goto 9, 3) := by decide +kernel
theorem d_RR_land_82 : decode prog_1_method_7_code 82 = .ok (.aload_n 0, 1) := by decide +kernel
theorem d_RR_land_83 : decode prog_1_method_7_code 83 = .ok (.iload_n 3, 1) := by decide +kernel
theorem d_RR_land_84 : decode prog_1_method_7_code 84 = .ok (.invokevirtual 93, 3) := by decide +kernel
theorem d_RR_land_87 : decode prog_1_method_7_code 87 = .ok (.ireturn, 1) := by decide +kernel
theorem d_RR_land_88 : decode prog_1_method_7_code 88 = .ok (.aload 4, 2) := by decide +kernel
theorem d_RR_land_90 : decode prog_1_method_7_code 90 = .ok (.getfield 96, 3) := by decide +kernel
theorem d_RR_land_93 : decode prog_1_method_7_code 93 = .ok (.aload 5, 2) := by decide +kernel
theorem d_RR_land_95 : decode prog_1_method_7_code 95 = .ok (.getfield 96, 3) := by decide +kernel
theorem d_RR_land_98 : decode prog_1_method_7_code 98 = .ok (.if_icmp .eq 6, 3) := by decide +kernel
theorem d_RR_land_101 : decode prog_1_method_7_code 101 = .ok (.ldc 50, 2) := by decide +kernel
theorem d_RR_land_103 : decode prog_1_method_7_code 103 = .ok (.ireturn, 1) := by decide +kernel
theorem d_RR_land_104 : decode prog_1_method_7_code 104 = .ok (.aload_n 0, 1) := by decide +kernel
theorem d_RR_land_105 : decode prog_1_method_7_code 105 = .ok (.iload_n 1, 1) := by decide +kernel
theorem d_RR_land_106 : decode prog_1_method_7_code 106 = .ok (.aload 4, 2) := by decide +kernel
theorem d_RR_land_108 : decode prog_1_method_7_code 108 = .ok (.aload 5, 2) := by decide +kernel
theorem d_RR_land_110 : decode prog_1_method_7_code 110 = .ok (.invokestatic 99, 3) := by decide +kernel
theorem d_RR_land_113 : decode prog_1_method_7_code 113 = .ok (.invokevirtual 87, 3) := by decide +kernel
theorem d_RR_land_116 : decode prog_1_method_7_code 116 = .ok (.ireturn, 1) := by decide +kernel
theorem d_RR_notThat_0 : decode prog_1_method_33_code 0 = .ok (.aload_n 0, 1) := by decide +kernel
theorem d_RR_notThat_1 : decode prog_1_method_33_code 1 = .ok (.aload_n 0, 1) := by decide +kernel
theorem d_RR_notThat_2 : decode prog_1_method_33_code 2 = .ok (.getfield 17, 3) := by decide +kernel
theorem d_RR_notThat_5 : decode prog_1_method_33_code 5 = .ok (.iload_n 1, 1) := by decide +kernel
theorem d_RR_notThat_6 : decode prog_1_method_33_code 6 = .ok (.aaload, 1) := by decide +kernel
theorem d_RR_notThat_7 : decode prog_1_method_33_code 7 = .ok (.ifnonnull 7, 3) := by decide +kernel
theorem d_RR_notThat_10 : decode prog_1_method_33_code 10 = .ok (.iconst 1, 1) := by decide +kernel
theorem d_RR_notThat_11 : decode prog_1_method_33_code 11 = .ok (.goto 4, 3) := by decide +kernel
theorem d_RR_notThat_14 : decode prog_1_method_33_code 14 = .ok (.iconst 3, 1) := by decide +kernel
theorem d_RR_notThat_15 : decode prog_1_method_33_code 15 = .ok (.invokevirtual 51, 3) := by decide +kernel
theorem d_RR_notThat_18 : decode prog_1_method_33_code 18 = .ok (.ireturn, 1) := by decide +kernel
theorem d_RR_landOf_0 : decode prog_1_method_52_code 0 = .ok (.iconst 2, 1) := by decide +kernel
theorem d_RR_landOf_1 : decode prog_1_method_52_code 1 = .ok (.aload_n 0, 1) := by decide +kernel
theorem d_RR_landOf_2 : decode prog_1_method_52_code 2 = .ok (.getfield 96, 3) := by decide +kernel
theorem d_RR_landOf_5 : decode prog_1_method_52_code 5 = .ok (.imul, 1) := by decide +kernel
theorem d_RR_landOf_6 : decode prog_1_method_52_code 6 = .ok (.newarray .int, 2) := by decide +kernel
theorem d_RR_landOf_8 : decode prog_1_method_52_code 8 = .ok (.astore_n 2, 1) := by decide +kernel
theorem d_RR_landOf_9 : decode prog_1_method_52_code 9 = .ok (.aload_n 0, 1) := by decide +kernel
theorem d_RR_landOf_10 : decode prog_1_method_52_code 10 = .ok (.getfield 130, 3) := by decide +kernel
theorem d_RR_landOf_13 : decode prog_1_method_52_code 13 = .ok (.aload_n 1, 1) := by decide +kernel
theorem d_RR_landOf_14 : decode prog_1_method_52_code 14 = .ok (.getfield 130, 3) := by decide +kernel
theorem d_RR_landOf_17 : decode prog_1_method_52_code 17 = .ok (.aload_n 2, 1) := by decide +kernel
theorem d_RR_landOf_18 : decode prog_1_method_52_code 18 = .ok (.invokestatic 260, 3) := by decide +kernel
theorem d_RR_landOf_21 : decode prog_1_method_52_code 21 = .ok (.istore_n 3, 1) := by decide +kernel
theorem d_RR_landOf_22 : decode prog_1_method_52_code 22 = .ok (.iload_n 3, 1) := by decide +kernel
theorem d_RR_landOf_23 : decode prog_1_method_52_code 23 = .ok (.iconst 1, 1) := by decide +kernel
theorem d_RR_landOf_24 : decode prog_1_method_52_code 24 = .ok (.if_icmp .ne 16, 3) := by decide +kernel
theorem d_RR_landOf_27 : decode prog_1_method_52_code 27 = .ok (.new 235, 3) := by decide +kernel
theorem d_RR_landOf_30 : decode prog_1_method_52_code 30 = .ok (.dup, 1) := by decide +kernel
theorem d_RR_landOf_31 : decode prog_1_method_52_code 31 = .ok (.aload_n 0, 1) := by decide +kernel
theorem d_RR_landOf_32 : decode prog_1_method_52_code 32 = .ok (.aload_n 1, 1) := by decide +kernel
theorem d_RR_landOf_33 : decode prog_1_method_52_code 33 = .ok (.aload_n 2, 1) := by decide +kernel
theorem d_RR_landOf_34 : decode prog_1_method_52_code 34 = .ok (.invokespecial 264, 3) := by decide +kernel
theorem d_RR_landOf_37 : decode prog_1_method_52_code 37 = .ok (.goto 14, 3) := by decide +kernel
theorem d_RR_landOf_40 : decode prog_1_method_52_code 40 = .ok (.new 137, 3) := by decide +kernel
theorem d_RR_landOf_43 : decode prog_1_method_52_code 43 = .ok (.dup, 1) := by decide +kernel
theorem d_RR_landOf_44 : decode prog_1_method_52_code 44 = .ok (.aload_n 0, 1) := by decide +kernel
theorem d_RR_landOf_45 : decode prog_1_method_52_code 45 = .ok (.aload_n 1, 1) := by decide +kernel
theorem d_RR_landOf_46 : decode prog_1_method_52_code 46 = .ok (.aload_n 2, 1) := by decide +kernel
theorem d_RR_landOf_47 : decode prog_1_method_52_code 47 = .ok (.iload_n 3, 1) := by decide +kernel
theorem d_RR_landOf_48 : decode prog_1_method_52_code 48 = .ok (.invokespecial 267, 3) := by decide +kernel
theorem d_RR_landOf_51 : decode prog_1_method_52_code 51 = .ok (.areturn, 1) := by decide +kernel
theorem d_RR_numberLoops_0 : decode prog_1_method_53_code 0 = .ok (.aload_n 2, 1) := by decide +kernel
theorem d_RR_numberLoops_1 : decode prog_1_method_53_code 1 = .ok (.ldc 117, 2) := by decide +kernel
theorem d_RR_numberLoops_3 : decode prog_1_method_53_code 3 = .ok (.invokestatic 270, 3) := by decide +kernel
theorem d_RR_numberLoops_6 : decode prog_1_method_53_code 6 = .ok (.iconst 0, 1) := by decide +kernel
theorem d_RR_numberLoops_7 : decode prog_1_method_53_code 7 = .ok (.istore_n 3, 1) := by decide +kernel
theorem d_RR_numberLoops_8 : decode prog_1_method_53_code 8 = .ok (.iconst 0, 1) := by decide +kernel
theorem d_RR_numberLoops_9 : decode prog_1_method_53_code 9 = .ok (.istore 4, 2) := by decide +kernel
theorem d_RR_numberLoops_11 : decode prog_1_method_53_code 11 = .ok (.iload 4, 2) := by decide +kernel
theorem d_RR_numberLoops_13 : decode prog_1_method_53_code 13 = .ok (.aload_n 2, 1) := by decide +kernel
theorem d_RR_numberLoops_14 : decode prog_1_method_53_code 14 = .ok (.arraylength, 1) := by decide +kernel
theorem d_RR_numberLoops_15 : decode prog_1_method_53_code 15 = .ok (.if_icmp .ge 74, 3) := by decide +kernel
theorem d_RR_numberLoops_18 : decode prog_1_method_53_code 18 = .ok (.iload 4, 2) := by decide +kernel
theorem d_RR_numberLoops_20 : decode prog_1_method_53_code 20 = .ok (.istore 5, 2) := by decide +kernel
theorem d_RR_numberLoops_22 : decode prog_1_method_53_code 22 = .ok (.iconst 0, 1) := by decide +kernel
theorem d_RR_numberLoops_23 : decode prog_1_method_53_code 23 = .ok (.istore 6, 2) := by decide +kernel
theorem d_RR_numberLoops_25 : decode prog_1_method_53_code 25 = .ok (.iload 6, 2) := by decide +kernel
theorem d_RR_numberLoops_27 : decode prog_1_method_53_code 27 = .ok (.aload_n 2, 1) := by decide +kernel
theorem d_RR_numberLoops_28 : decode prog_1_method_53_code 28 = .ok (.arraylength, 1) := by decide +kernel
theorem d_RR_numberLoops_29 : decode prog_1_method_53_code 29 = .ok (.if_icmp .ge 43, 3) := by decide +kernel
theorem d_RR_numberLoops_32 : decode prog_1_method_53_code 32 = .ok (.aload_n 2, 1) := by decide +kernel
theorem d_RR_numberLoops_33 : decode prog_1_method_53_code 33 = .ok (.iload 5, 2) := by decide +kernel
theorem d_RR_numberLoops_35 : decode prog_1_method_53_code 35 = .ok (.iaload, 1) := by decide +kernel
theorem d_RR_numberLoops_36 : decode prog_1_method_53_code 36 = .ok (.ldc 117, 2) := by decide +kernel
theorem d_RR_numberLoops_38 : decode prog_1_method_53_code 38 = .ok (.if_icmp .ne 34, 3) := by decide +kernel
theorem d_RR_numberLoops_41 : decode prog_1_method_53_code 41 = .ok (.aload_n 2, 1) := by decide +kernel
theorem d_RR_numberLoops_42 : decode prog_1_method_53_code 42 = .ok (.iload 5, 2) := by decide +kernel
theorem d_RR_numberLoops_44 : decode prog_1_method_53_code 44 = .ok (.iload_n 3, 1) := by decide +kernel
theorem d_RR_numberLoops_45 : decode prog_1_method_53_code 45 = .ok (.iastore, 1) := by decide +kernel
theorem d_RR_numberLoops_46 : decode prog_1_method_53_code 46 = .ok (.iload 6, 2) := by decide +kernel
theorem d_RR_numberLoops_48 : decode prog_1_method_53_code 48 = .ok (.iconst 1, 1) := by decide +kernel
theorem d_RR_numberLoops_49 : decode prog_1_method_53_code 49 = .ok (.iand, 1) := by decide +kernel
theorem d_RR_numberLoops_50 : decode prog_1_method_53_code 50 = .ok (.ifCond .ne 10, 3) := by decide +kernel
theorem d_RR_numberLoops_53 : decode prog_1_method_53_code 53 = .ok (.aload_n 0, 1) := by decide +kernel
theorem d_RR_numberLoops_54 : decode prog_1_method_53_code 54 = .ok (.iload 5, 2) := by decide +kernel
theorem d_RR_numberLoops_56 : decode prog_1_method_53_code 56 = .ok (.iaload, 1) := by decide +kernel
theorem d_RR_numberLoops_57 : decode prog_1_method_53_code 57 = .ok (.goto 7, 3) := by decide +kernel
theorem d_RR_numberLoops_60 : decode prog_1_method_53_code 60 = .ok (.aload_n 1, 1) := by decide +kernel
theorem d_RR_numberLoops_61 : decode prog_1_method_53_code 61 = .ok (.iload 5, 2) := by decide +kernel
theorem d_RR_numberLoops_63 : decode prog_1_method_53_code 63 = .ok (.iaload, 1) := by decide +kernel
theorem d_RR_numberLoops_64 : decode prog_1_method_53_code 64 = .ok (.istore 5, 2) := by decide +kernel
theorem d_RR_numberLoops_66 : decode prog_1_method_53_code 66 = .ok (.iinc 6 1, 3) := by decide +kernel
theorem d_RR_numberLoops_69 : decode prog_1_method_53_code 69 = .ok (.goto (-44), 3) := by decide +kernel
theorem d_RR_numberLoops_72 : decode prog_1_method_53_code 72 = .ok (.aload_n 2, 1) := by decide +kernel
theorem d_RR_numberLoops_73 : decode prog_1_method_53_code 73 = .ok (.iload 4, 2) := by decide +kernel
theorem d_RR_numberLoops_75 : decode prog_1_method_53_code 75 = .ok (.iaload, 1) := by decide +kernel
theorem d_RR_numberLoops_76 : decode prog_1_method_53_code 76 = .ok (.iload_n 3, 1) := by decide +kernel
theorem d_RR_numberLoops_77 : decode prog_1_method_53_code 77 = .ok (.if_icmp .ne 6, 3) := by decide +kernel
theorem d_RR_numberLoops_80 : decode prog_1_method_53_code 80 = .ok (.iinc 3 1, 3) := by decide +kernel
theorem d_RR_numberLoops_83 : decode prog_1_method_53_code 83 = .ok (.iinc 4 1, 3) := by decide +kernel
theorem d_RR_numberLoops_86 : decode prog_1_method_53_code 86 = .ok (.goto (-75), 3) := by decide +kernel
theorem d_RR_numberLoops_89 : decode prog_1_method_53_code 89 = .ok (.iload_n 3, 1) := by decide +kernel
theorem d_RR_numberLoops_90 : decode prog_1_method_53_code 90 = .ok (.ireturn, 1) := by decide +kernel
theorem d_JA_fill_0 : decode prog_19_method_103_code 0 = .ok (.iconst 0, 1) := by decide +kernel
theorem d_JA_fill_1 : decode prog_19_method_103_code 1 = .ok (.istore_n 2, 1) := by decide +kernel
theorem d_JA_fill_2 : decode prog_19_method_103_code 2 = .ok (.aload_n 0, 1) := by decide +kernel
theorem d_JA_fill_3 : decode prog_19_method_103_code 3 = .ok (.arraylength, 1) := by decide +kernel
theorem d_JA_fill_4 : decode prog_19_method_103_code 4 = .ok (.istore_n 3, 1) := by decide +kernel
theorem d_JA_fill_5 : decode prog_19_method_103_code 5 = .ok (.iload_n 2, 1) := by decide +kernel
theorem d_JA_fill_6 : decode prog_19_method_103_code 6 = .ok (.iload_n 3, 1) := by decide +kernel
theorem d_JA_fill_7 : decode prog_19_method_103_code 7 = .ok (.if_icmp .ge 13, 3) := by decide +kernel
theorem d_JA_fill_10 : decode prog_19_method_103_code 10 = .ok (.aload_n 0, 1) := by decide +kernel
theorem d_JA_fill_11 : decode prog_19_method_103_code 11 = .ok (.iload_n 2, 1) := by decide +kernel
theorem d_JA_fill_12 : decode prog_19_method_103_code 12 = .ok (.iload_n 1, 1) := by decide +kernel
theorem d_JA_fill_13 : decode prog_19_method_103_code 13 = .ok (.iastore, 1) := by decide +kernel
theorem d_JA_fill_14 : decode prog_19_method_103_code 14 = .ok (.iinc 2 1, 3) := by decide +kernel
theorem d_JA_fill_17 : decode prog_19_method_103_code 17 = .ok (.goto (-12), 3) := by decide +kernel
theorem d_JA_fill_20 : decode prog_19_method_103_code 20 = .ok (.return_, 1) := by decide +kernel
theorem d_Lo_init_0 : decode prog_5_method_1_code 0 = .ok (.aload_n 0, 1) := by decide +kernel
theorem d_Lo_init_1 : decode prog_5_method_1_code 1 = .ok (.aload_n 1, 1) := by decide +kernel
theorem d_Lo_init_2 : decode prog_5_method_1_code 2 = .ok (.aload_n 2, 1) := by decide +kernel
theorem d_Lo_init_3 : decode prog_5_method_1_code 3 = .ok (.aload_n 3, 1) := by decide +kernel
theorem d_Lo_init_4 : decode prog_5_method_1_code 4 = .ok (.iconst 1, 1) := by decide +kernel
theorem d_Lo_init_5 : decode prog_5_method_1_code 5 = .ok (.invokespecial 1, 3) := by decide +kernel
theorem d_Lo_init_8 : decode prog_5_method_1_code 8 = .ok (.return_, 1) := by decide +kernel
theorem d_La_init_0 : decode prog_4_method_1_code 0 = .ok (.aload_n 0, 1) := by decide +kernel
theorem d_La_init_1 : decode prog_4_method_1_code 1 = .ok (.aload_n 1, 1) := by decide +kernel
theorem d_La_init_2 : decode prog_4_method_1_code 2 = .ok (.getfield 1, 3) := by decide +kernel
theorem d_La_init_5 : decode prog_4_method_1_code 5 = .ok (.invokespecial 7, 3) := by decide +kernel
theorem d_La_init_8 : decode prog_4_method_1_code 8 = .ok (.aload_n 0, 1) := by decide +kernel
theorem d_La_init_9 : decode prog_4_method_1_code 9 = .ok (.aload_n 1, 1) := by decide +kernel
theorem d_La_init_10 : decode prog_4_method_1_code 10 = .ok (.putfield 13, 3) := by decide +kernel
theorem d_La_init_13 : decode prog_4_method_1_code 13 = .ok (.aload_n 0, 1) := by decide +kernel
theorem d_La_init_14 : decode prog_4_method_1_code 14 = .ok (.aload_n 2, 1) := by decide +kernel
theorem d_La_init_15 : decode prog_4_method_1_code 15 = .ok (.putfield 19, 3) := by decide +kernel
theorem d_La_init_18 : decode prog_4_method_1_code 18 = .ok (.aload_n 0, 1) := by decide +kernel
theorem d_La_init_19 : decode prog_4_method_1_code 19 = .ok (.aload_n 3, 1) := by decide +kernel
theorem d_La_init_20 : decode prog_4_method_1_code 20 = .ok (.putfield 22, 3) := by decide +kernel
theorem d_La_init_23 : decode prog_4_method_1_code 23 = .ok (.aload_n 0, 1) := by decide +kernel
theorem d_La_init_24 : decode prog_4_method_1_code 24 = .ok (.iload 4, 2) := by decide +kernel
theorem d_La_init_26 : decode prog_4_method_1_code 26 = .ok (.putfield 26, 3) := by decide +kernel
theorem d_La_init_29 : decode prog_4_method_1_code 29 = .ok (.return_, 1) := by decide +kernel
theorem d_RR_strip_0 : decode prog_1_method_8_code 0 = .ok (.iload_n 1, 1) := by decide +kernel
theorem d_RR_strip_1 : decode prog_1_method_8_code 1 = .ok (.invokestatic 80, 3) := by decide +kernel
theorem d_RR_strip_4 : decode prog_1_method_8_code 4 = .ok (.ifCond .eq 23, 3) := by decide +kernel
theorem d_RR_strip_7 : decode prog_1_method_8_code 7 = .ok (.iload_n 2, 1) := by decide +kernel
theorem d_RR_strip_8 : decode prog_1_method_8_code 8 = .ok (.invokestatic 46, 3) := by decide +kernel
theorem d_RR_strip_11 : decode prog_1_method_8_code 11 = .ok (.ifCond .eq 16, 3) := by decide +kernel
theorem d_RR_strip_14 : decode prog_1_method_8_code 14 = .ok (.iload 4, 2) := by decide +kernel
theorem d_RR_strip_16 : decode prog_1_method_8_code 16 = .ok (.iconst 1, 1) := by decide +kernel
theorem d_RR_strip_17 : decode prog_1_method_8_code 17 = .ok (.if_icmp .lt 10, 3) := by decide +kernel
theorem d_RR_strip_20 : decode prog_1_method_8_code 20 = .ok (.iload 4, 2) := by decide +kernel
theorem d_RR_strip_22 : decode prog_1_method_8_code 22 = .ok (.bipush 20, 2) := by decide +kernel
theorem d_RR_strip_24 : decode prog_1_method_8_code 24 = .ok (.if_icmp .le 6, 3) := by decide +kernel
theorem d_RR_strip_27 : decode prog_1_method_8_code 27 = .ok (.ldc 50, 2) := by decide +kernel
theorem d_RR_strip_29 : decode prog_1_method_8_code 29 = .ok (.ireturn, 1) := by decide +kernel
theorem d_RR_strip_30 : decode prog_1_method_8_code 30 = .ok (.aload_n 0, 1) := by decide +kernel
theorem d_RR_strip_31 : decode prog_1_method_8_code 31 = .ok (.getfield 11, 3) := by decide +kernel
theorem d_RR_strip_34 : decode prog_1_method_8_code 34 = .ok (.iload_n 2, 1) := by decide +kernel
theorem d_RR_strip_35 : decode prog_1_method_8_code 35 = .ok (.aaload, 1) := by decide +kernel
theorem d_RR_strip_36 : decode prog_1_method_8_code 36 = .ok (.astore 5, 2) := by decide +kernel
theorem d_RR_strip_38 : decode prog_1_method_8_code 38 = .ok (.aload 5, 2) := by decide +kernel
theorem d_RR_strip_40 : decode prog_1_method_8_code 40 = .ok (.ifnonnull 9, 3) := by decide +kernel
theorem d_RR_strip_43 : decode prog_1_method_8_code 43 = .ok (.aload_n 0, 1) := by decide +kernel
theorem d_RR_strip_44 : decode prog_1_method_8_code 44 = .ok (.iconst 1, 1) := by decide +kernel
theorem d_RR_strip_45 : decode prog_1_method_8_code 45 = .ok (.invokevirtual 51, 3) := by decide +kernel
theorem d_RR_strip_48 : decode prog_1_method_8_code 48 = .ok (.ireturn, 1) := by decide +kernel
theorem d_RR_strip_49 : decode prog_1_method_8_code 49 = .ok (.aload 5, 2) := by decide +kernel
theorem d_RR_strip_51 : decode prog_1_method_8_code 51 = .ok (.iload_n 3, 1) := by decide +kernel
theorem d_RR_strip_52 : decode prog_1_method_8_code 52 = .ok (.iload 4, 2) := by decide +kernel
theorem d_RR_strip_54 : decode prog_1_method_8_code 54 = .ok (.invokevirtual 61, 3) := by decide +kernel
theorem d_RR_strip_57 : decode prog_1_method_8_code 57 = .ok (.ifCond .ne 9, 3) := by decide +kernel
theorem d_RR_strip_60 : decode prog_1_method_8_code 60 = .ok (.aload_n 0, 1) := by decide +kernel
theorem d_RR_strip_61 : decode prog_1_method_8_code 61 = .ok (.iconst 2, 1) := by decide +kernel
theorem d_RR_strip_62 : decode prog_1_method_8_code 62 = .ok (.invokevirtual 51, 3) := by decide +kernel
theorem d_RR_strip_65 : decode prog_1_method_8_code 65 = .ok (.ireturn, 1) := by decide +kernel
theorem d_RR_strip_66 : decode prog_1_method_8_code 66 = .ok (.iconst 0, 1) := by decide +kernel
theorem d_RR_strip_67 : decode prog_1_method_8_code 67 = .ok (.istore 6, 2) := by decide +kernel
theorem d_RR_strip_69 : decode prog_1_method_8_code 69 = .ok (.iconst 0, 1) := by decide +kernel
theorem d_RR_strip_70 : decode prog_1_method_8_code 70 = .ok (.istore 7, 2) := by decide +kernel
theorem d_RR_strip_72 : decode prog_1_method_8_code 72 = .ok (.iload 7, 2) := by decide +kernel
theorem d_RR_strip_74 : decode prog_1_method_8_code 74 = .ok (.iload 4, 2) := by decide +kernel
theorem d_RR_strip_76 : decode prog_1_method_8_code 76 = .ok (.if_icmp .ge 55, 3) := by decide +kernel
theorem d_RR_strip_79 : decode prog_1_method_8_code 79 = .ok (.aload 5, 2) := by decide +kernel
theorem d_RR_strip_81 : decode prog_1_method_8_code 81 = .ok (.getfield 65, 3) := by decide +kernel
theorem d_RR_strip_84 : decode prog_1_method_8_code 84 = .ok (.iload_n 3, 1) := by decide +kernel
theorem d_RR_strip_85 : decode prog_1_method_8_code 85 = .ok (.iload 7, 2) := by decide +kernel
theorem d_RR_strip_87 : decode prog_1_method_8_code 87 = .ok (.iadd, 1) := by decide +kernel
theorem d_RR_strip_88 : decode prog_1_method_8_code 88 = .ok (.iaload, 1) := by decide +kernel
theorem d_RR_strip_89 : decode prog_1_method_8_code 89 = .ok (.istore 8, 2) := by decide +kernel
theorem d_RR_strip_91 : decode prog_1_method_8_code 91 = .ok (.iload 8, 2) := by decide +kernel
theorem d_RR_strip_93 : decode prog_1_method_8_code 93 = .ok (.ifCond .lt 20, 3) := by decide +kernel
theorem d_RR_strip_96 : decode prog_1_method_8_code 96 = .ok (.iload 8, 2) := by decide +kernel
theorem d_RR_strip_98 : decode prog_1_method_8_code 98 = .ok (.iload 4, 2) := by decide +kernel
theorem d_RR_strip_100 : decode prog_1_method_8_code 100 = .ok (.if_icmp .ge 13, 3) := by decide +kernel
theorem d_RR_strip_103 : decode prog_1_method_8_code 103 = .ok (.iload 6, 2) := by decide +kernel
theorem d_RR_strip_105 : decode prog_1_method_8_code 105 = .ok (.iload 8, 2) := by decide +kernel
theorem d_RR_strip_107 : decode prog_1_method_8_code 107 = .ok (.ishr, 1) := by decide +kernel
theorem d_RR_strip_108 : decode prog_1_method_8_code 108 = .ok (.iconst 1, 1) := by decide +kernel
theorem d_RR_strip_109 : decode prog_1_method_8_code 109 = .ok (.iand, 1) := by decide +kernel
theorem d_RR_strip_110 : decode prog_1_method_8_code 110 = .ok (.ifCond .eq 6, 3) := by decide +kernel
theorem d_RR_strip_113 : decode prog_1_method_8_code 113 = .ok (.ldc 50, 2) := by decide +kernel
theorem d_RR_strip_115 : decode prog_1_method_8_code 115 = .ok (.ireturn, 1) := by decide +kernel
theorem d_RR_strip_116 : decode prog_1_method_8_code 116 = .ok (.iload 6, 2) := by decide +kernel
theorem d_RR_strip_118 : decode prog_1_method_8_code 118 = .ok (.iconst 1, 1) := by decide +kernel
theorem d_RR_strip_119 : decode prog_1_method_8_code 119 = .ok (.iload 8, 2) := by decide +kernel
theorem d_RR_strip_121 : decode prog_1_method_8_code 121 = .ok (.ishl, 1) := by decide +kernel
theorem d_RR_strip_122 : decode prog_1_method_8_code 122 = .ok (.ior, 1) := by decide +kernel
theorem d_RR_strip_123 : decode prog_1_method_8_code 123 = .ok (.istore 6, 2) := by decide +kernel
theorem d_RR_strip_125 : decode prog_1_method_8_code 125 = .ok (.iinc 7 1, 3) := by decide +kernel
theorem d_RR_strip_128 : decode prog_1_method_8_code 128 = .ok (.goto (-56), 3) := by decide +kernel
theorem d_RR_strip_131 : decode prog_1_method_8_code 131 = .ok (.aload_n 0, 1) := by decide +kernel
theorem d_RR_strip_132 : decode prog_1_method_8_code 132 = .ok (.iload_n 1, 1) := by decide +kernel
theorem d_RR_strip_133 : decode prog_1_method_8_code 133 = .ok (.aload 5, 2) := by decide +kernel
theorem d_RR_strip_135 : decode prog_1_method_8_code 135 = .ok (.getfield 65, 3) := by decide +kernel
theorem d_RR_strip_138 : decode prog_1_method_8_code 138 = .ok (.iload_n 3, 1) := by decide +kernel
theorem d_RR_strip_139 : decode prog_1_method_8_code 139 = .ok (.iload_n 3, 1) := by decide +kernel
theorem d_RR_strip_140 : decode prog_1_method_8_code 140 = .ok (.iload 4, 2) := by decide +kernel
theorem d_RR_strip_142 : decode prog_1_method_8_code 142 = .ok (.iadd, 1) := by decide +kernel
theorem d_RR_strip_143 : decode prog_1_method_8_code 143 = .ok (.invokestatic 103, 3) := by decide +kernel
theorem d_RR_strip_146 : decode prog_1_method_8_code 146 = .ok (.invokestatic 109, 3) := by decide +kernel
theorem d_RR_strip_149 : decode prog_1_method_8_code 149 = .ok (.invokevirtual 87, 3) := by decide +kernel
theorem d_RR_strip_152 : decode prog_1_method_8_code 152 = .ok (.ireturn, 1) := by decide +kernel
theorem d_JA_copyOfRange_0 : decode prog_19_method_136_code 0 = .ok (.iload_n 1, 1) := by decide +kernel
theorem d_JA_copyOfRange_1 : decode prog_19_method_136_code 1 = .ok (.ifCond .ne 9, 3) := by decide +kernel
theorem d_JA_copyOfRange_4 : decode prog_19_method_136_code 4 = .ok (.iload_n 2, 1) := by decide +kernel
theorem d_JA_copyOfRange_5 : decode prog_19_method_136_code 5 = .ok (.aload_n 0, 1) := by decide +kernel
theorem d_JA_copyOfRange_6 : decode prog_19_method_136_code 6 = .ok (.arraylength, 1) := by decide +kernel
theorem d_JA_copyOfRange_7 : decode prog_19_method_136_code 7 = .ok (.if_icmp .eq 10, 3) := by decide +kernel
theorem d_JA_copyOfRange_10 : decode prog_19_method_136_code 10 = .ok (.aload_n 0, 1) := by decide +kernel
theorem d_JA_copyOfRange_11 : decode prog_19_method_136_code 11 = .ok (.iload_n 1, 1) := by decide +kernel
theorem d_JA_copyOfRange_12 : decode prog_19_method_136_code 12 = .ok (.iload_n 2, 1) := by decide +kernel
theorem d_JA_copyOfRange_13 : decode prog_19_method_136_code 13 = .ok (.invokestatic 351, 3) := by decide +kernel
theorem d_JA_copyOfRange_16 : decode prog_19_method_136_code 16 = .ok (.areturn, 1) := by decide +kernel
theorem d_JA_copyOfRange_17 : decode prog_19_method_136_code 17 = .ok (.aload_n 0, 1) := by decide +kernel
theorem d_JA_copyOfRange_18 : decode prog_19_method_136_code 18 = .ok (.invokevirtual 316, 3) := by decide +kernel
theorem d_JA_copyOfRange_21 : decode prog_19_method_136_code 21 = .ok (.checkcast 317, 3) := by decide +kernel
theorem d_JA_copyOfRange_24 : decode prog_19_method_136_code 24 = .ok (.areturn, 1) := by decide +kernel
theorem d_JA_copyOfRangeInt_0 : decode prog_19_method_137_code 0 = .ok (.iload_n 1, 1) := by decide +kernel
theorem d_JA_copyOfRangeInt_1 : decode prog_19_method_137_code 1 = .ok (.iload_n 2, 1) := by decide +kernel
theorem d_JA_copyOfRangeInt_2 : decode prog_19_method_137_code 2 = .ok (.invokestatic 343, 3) := by decide +kernel
theorem d_JA_copyOfRangeInt_5 : decode prog_19_method_137_code 5 = .ok (.iload_n 2, 1) := by decide +kernel
theorem d_JA_copyOfRangeInt_6 : decode prog_19_method_137_code 6 = .ok (.iload_n 1, 1) := by decide +kernel
theorem d_JA_copyOfRangeInt_7 : decode prog_19_method_137_code 7 = .ok (.isub, 1) := by decide +kernel
theorem d_JA_copyOfRangeInt_8 : decode prog_19_method_137_code 8 = .ok (.istore_n 3, 1) := by decide +kernel
theorem d_JA_copyOfRangeInt_9 : decode prog_19_method_137_code 9 = .ok (.iload_n 3, 1) := by decide +kernel
theorem d_JA_copyOfRangeInt_10 : decode prog_19_method_137_code 10 = .ok (.newarray .int, 2) := by decide +kernel
theorem d_JA_copyOfRangeInt_12 : decode prog_19_method_137_code 12 = .ok (.astore 4, 2) := by decide +kernel
theorem d_JA_copyOfRangeInt_14 : decode prog_19_method_137_code 14 = .ok (.aload_n 0, 1) := by decide +kernel
theorem d_JA_copyOfRangeInt_15 : decode prog_19_method_137_code 15 = .ok (.iload_n 1, 1) := by decide +kernel
theorem d_JA_copyOfRangeInt_16 : decode prog_19_method_137_code 16 = .ok (.aload 4, 2) := by decide +kernel
theorem d_JA_copyOfRangeInt_18 : decode prog_19_method_137_code 18 = .ok (.iconst 0, 1) := by decide +kernel
theorem d_JA_copyOfRangeInt_19 : decode prog_19_method_137_code 19 = .ok (.aload_n 0, 1) := by decide +kernel
theorem d_JA_copyOfRangeInt_20 : decode prog_19_method_137_code 20 = .ok (.arraylength, 1) := by decide +kernel
theorem d_JA_copyOfRangeInt_21 : decode prog_19_method_137_code 21 = .ok (.iload_n 1, 1) := by decide +kernel
theorem d_JA_copyOfRangeInt_22 : decode prog_19_method_137_code 22 = .ok (.isub, 1) := by decide +kernel
theorem d_JA_copyOfRangeInt_23 : decode prog_19_method_137_code 23 = .ok (.iload_n 3, 1) := by decide +kernel
theorem d_JA_copyOfRangeInt_24 : decode prog_19_method_137_code 24 = .ok (.invokestatic 304, 3) := by decide +kernel
theorem d_JA_copyOfRangeInt_27 : decode prog_19_method_137_code 27 = .ok (.invokestatic 150, 3) := by decide +kernel
theorem d_JA_copyOfRangeInt_30 : decode prog_19_method_137_code 30 = .ok (.aload 4, 2) := by decide +kernel
theorem d_JA_copyOfRangeInt_32 : decode prog_19_method_137_code 32 = .ok (.areturn, 1) := by decide +kernel
theorem d_JA_checkLength_0 : decode prog_19_method_131_code 0 = .ok (.iload_n 1, 1) := by decide +kernel
theorem d_JA_checkLength_1 : decode prog_19_method_131_code 1 = .ok (.iload_n 0, 1) := by decide +kernel
theorem d_JA_checkLength_2 : decode prog_19_method_131_code 2 = .ok (.if_icmp .ge 35, 3) := by decide +kernel
theorem d_JA_checkLength_5 : decode prog_19_method_131_code 5 = .ok (.new 43, 3) := by decide +kernel
theorem d_JA_checkLength_8 : decode prog_19_method_131_code 8 = .ok (.dup, 1) := by decide +kernel
theorem d_JA_checkLength_9 : decode prog_19_method_131_code 9 = .ok (.new 45, 3) := by decide +kernel
theorem d_JA_checkLength_12 : decode prog_19_method_131_code 12 = .ok (.dup, 1) := by decide +kernel
theorem d_JA_checkLength_13 : decode prog_19_method_131_code 13 = .ok (.invokespecial 47, 3) := by decide +kernel
theorem d_JA_checkLength_16 : decode prog_19_method_131_code 16 = .ok (.iload_n 0, 1) := by decide +kernel
theorem d_JA_checkLength_17 : decode prog_19_method_131_code 17 = .ok (.invokevirtual 54, 3) := by decide +kernel
theorem d_JA_checkLength_20 : decode prog_19_method_131_code 20 = .ok (.ldc_w 337, 3) := by decide +kernel
theorem d_JA_checkLength_23 : decode prog_19_method_131_code 23 = .ok (.invokevirtual 50, 3) := by decide +kernel
theorem d_JA_checkLength_26 : decode prog_19_method_131_code 26 = .ok (.iload_n 1, 1) := by decide +kernel
theorem d_JA_checkLength_27 : decode prog_19_method_131_code 27 = .ok (.invokevirtual 54, 3) := by decide +kernel
theorem d_JA_checkLength_30 : decode prog_19_method_131_code 30 = .ok (.invokevirtual 61, 3) := by decide +kernel
theorem d_JA_checkLength_33 : decode prog_19_method_131_code 33 = .ok (.invokespecial 65, 3) := by decide +kernel
theorem d_JA_checkLength_36 : decode prog_19_method_131_code 36 = .ok (.athrow, 1) := by decide +kernel
theorem d_JA_checkLength_37 : decode prog_19_method_131_code 37 = .ok (.return_, 1) := by decide +kernel
theorem d_JM_min_0 : decode prog_17_method_69_code 0 = .ok (.iload_n 0, 1) := by decide +kernel
theorem d_JM_min_1 : decode prog_17_method_69_code 1 = .ok (.iload_n 1, 1) := by decide +kernel
theorem d_JM_min_2 : decode prog_17_method_69_code 2 = .ok (.if_icmp .gt 7, 3) := by decide +kernel
theorem d_JM_min_5 : decode prog_17_method_69_code 5 = .ok (.iload_n 0, 1) := by decide +kernel
theorem d_JM_min_6 : decode prog_17_method_69_code 6 = .ok (.goto 4, 3) := by decide +kernel
theorem d_JM_min_9 : decode prog_17_method_69_code 9 = .ok (.iload_n 1, 1) := by decide +kernel
theorem d_JM_min_10 : decode prog_17_method_69_code 10 = .ok (.ireturn, 1) := by decide +kernel
theorem d_RR_stripOf_0 : decode prog_1_method_55_code 0 = .ok (.aload_n 0, 1) := by decide +kernel
theorem d_RR_stripOf_1 : decode prog_1_method_55_code 1 = .ok (.arraylength, 1) := by decide +kernel
theorem d_RR_stripOf_2 : decode prog_1_method_55_code 2 = .ok (.newarray .int, 2) := by decide +kernel
theorem d_RR_stripOf_4 : decode prog_1_method_55_code 4 = .ok (.astore_n 1, 1) := by decide +kernel
theorem d_RR_stripOf_5 : decode prog_1_method_55_code 5 = .ok (.iconst 0, 1) := by decide +kernel
theorem d_RR_stripOf_6 : decode prog_1_method_55_code 6 = .ok (.istore_n 2, 1) := by decide +kernel
theorem d_RR_stripOf_7 : decode prog_1_method_55_code 7 = .ok (.iload_n 2, 1) := by decide +kernel
theorem d_RR_stripOf_8 : decode prog_1_method_55_code 8 = .ok (.aload_n 0, 1) := by decide +kernel
theorem d_RR_stripOf_9 : decode prog_1_method_55_code 9 = .ok (.arraylength, 1) := by decide +kernel
theorem d_RR_stripOf_10 : decode prog_1_method_55_code 10 = .ok (.if_icmp .ge 15, 3) := by decide +kernel
theorem d_RR_stripOf_13 : decode prog_1_method_55_code 13 = .ok (.aload_n 1, 1) := by decide +kernel
theorem d_RR_stripOf_14 : decode prog_1_method_55_code 14 = .ok (.aload_n 0, 1) := by decide +kernel
theorem d_RR_stripOf_15 : decode prog_1_method_55_code 15 = .ok (.iload_n 2, 1) := by decide +kernel
theorem d_RR_stripOf_16 : decode prog_1_method_55_code 16 = .ok (.iaload, 1) := by decide +kernel
theorem d_RR_stripOf_17 : decode prog_1_method_55_code 17 = .ok (.iload_n 2, 1) := by decide +kernel
theorem d_RR_stripOf_18 : decode prog_1_method_55_code 18 = .ok (.iastore, 1) := by decide +kernel
theorem d_RR_stripOf_19 : decode prog_1_method_55_code 19 = .ok (.iinc 2 1, 3) := by decide +kernel
theorem d_RR_stripOf_22 : decode prog_1_method_55_code 22 = .ok (.goto (-15), 3) := by decide +kernel
theorem d_RR_stripOf_25 : decode prog_1_method_55_code 25 = .ok (.iconst 0, 1) := by decide +kernel
theorem d_RR_stripOf_26 : decode prog_1_method_55_code 26 = .ok (.istore_n 2, 1) := by decide +kernel
theorem d_RR_stripOf_27 : decode prog_1_method_55_code 27 = .ok (.iload_n 2, 1) := by decide +kernel
theorem d_RR_stripOf_28 : decode prog_1_method_55_code 28 = .ok (.aload_n 0, 1) := by decide +kernel
theorem d_RR_stripOf_29 : decode prog_1_method_55_code 29 = .ok (.arraylength, 1) := by decide +kernel
theorem d_RR_stripOf_30 : decode prog_1_method_55_code 30 = .ok (.iconst 1, 1) := by decide +kernel
theorem d_RR_stripOf_31 : decode prog_1_method_55_code 31 = .ok (.isub, 1) := by decide +kernel
theorem d_RR_stripOf_32 : decode prog_1_method_55_code 32 = .ok (.if_icmp .ge 33, 3) := by decide +kernel
theorem d_RR_stripOf_35 : decode prog_1_method_55_code 35 = .ok (.iload_n 2, 1) := by decide +kernel
theorem d_RR_stripOf_36 : decode prog_1_method_55_code 36 = .ok (.aload_n 1, 1) := by decide +kernel
theorem d_RR_stripOf_37 : decode prog_1_method_55_code 37 = .ok (.invokestatic 277, 3) := by decide +kernel
theorem d_RR_stripOf_40 : decode prog_1_method_55_code 40 = .ok (.istore_n 3, 1) := by decide +kernel
theorem d_RR_stripOf_41 : decode prog_1_method_55_code 41 = .ok (.iload_n 3, 1) := by decide +kernel
theorem d_RR_stripOf_42 : decode prog_1_method_55_code 42 = .ok (.ldc 117, 2) := by decide +kernel
theorem d_RR_stripOf_44 : decode prog_1_method_55_code 44 = .ok (.if_icmp .eq 15, 3) := by decide +kernel
theorem d_RR_stripOf_47 : decode prog_1_method_55_code 47 = .ok (.new 205, 3) := by decide +kernel
theorem d_RR_stripOf_50 : decode prog_1_method_55_code 50 = .ok (.dup, 1) := by decide +kernel
theorem d_RR_stripOf_51 : decode prog_1_method_55_code 51 = .ok (.aload_n 0, 1) := by decide +kernel
theorem d_RR_stripOf_52 : decode prog_1_method_55_code 52 = .ok (.aload_n 1, 1) := by decide +kernel
theorem d_RR_stripOf_53 : decode prog_1_method_55_code 53 = .ok (.iload_n 2, 1) := by decide +kernel
theorem d_RR_stripOf_54 : decode prog_1_method_55_code 54 = .ok (.iload_n 3, 1) := by decide +kernel
theorem d_RR_stripOf_55 : decode prog_1_method_55_code 55 = .ok (.invokespecial 281, 3) := by decide +kernel
theorem d_RR_stripOf_58 : decode prog_1_method_55_code 58 = .ok (.areturn, 1) := by decide +kernel
theorem d_RR_stripOf_59 : decode prog_1_method_55_code 59 = .ok (.iinc 2 1, 3) := by decide +kernel
theorem d_RR_stripOf_62 : decode prog_1_method_55_code 62 = .ok (.goto (-35), 3) := by decide +kernel
theorem d_RR_stripOf_65 : decode prog_1_method_55_code 65 = .ok (.new 237, 3) := by decide +kernel
theorem d_RR_stripOf_68 : decode prog_1_method_55_code 68 = .ok (.dup, 1) := by decide +kernel
theorem d_RR_stripOf_69 : decode prog_1_method_55_code 69 = .ok (.aload_n 0, 1) := by decide +kernel
theorem d_RR_stripOf_70 : decode prog_1_method_55_code 70 = .ok (.aload_n 1, 1) := by decide +kernel
theorem d_RR_stripOf_71 : decode prog_1_method_55_code 71 = .ok (.invokespecial 284, 3) := by decide +kernel
theorem d_RR_stripOf_74 : decode prog_1_method_55_code 74 = .ok (.areturn, 1) := by decide +kernel
theorem d_RR_firstClashWith_0 : decode prog_1_method_56_code 0 = .ok (.aload_n 1, 1) := by decide +kernel
theorem d_RR_firstClashWith_1 : decode prog_1_method_56_code 1 = .ok (.iload_n 0, 1) := by decide +kernel
theorem d_RR_firstClashWith_2 : decode prog_1_method_56_code 2 = .ok (.iaload, 1) := by decide +kernel
theorem d_RR_firstClashWith_3 : decode prog_1_method_56_code 3 = .ok (.aload_n 1, 1) := by decide +kernel
theorem d_RR_firstClashWith_4 : decode prog_1_method_56_code 4 = .ok (.iload_n 0, 1) := by decide +kernel
theorem d_RR_firstClashWith_5 : decode prog_1_method_56_code 5 = .ok (.iconst 1, 1) := by decide +kernel
theorem d_RR_firstClashWith_6 : decode prog_1_method_56_code 6 = .ok (.iadd, 1) := by decide +kernel
theorem d_RR_firstClashWith_7 : decode prog_1_method_56_code 7 = .ok (.iaload, 1) := by decide +kernel
theorem d_RR_firstClashWith_8 : decode prog_1_method_56_code 8 = .ok (.invokestatic 287, 3) := by decide +kernel
theorem d_RR_firstClashWith_11 : decode prog_1_method_56_code 11 = .ok (.istore_n 2, 1) := by decide +kernel
theorem d_RR_firstClashWith_12 : decode prog_1_method_56_code 12 = .ok (.aload_n 1, 1) := by decide +kernel
theorem d_RR_firstClashWith_13 : decode prog_1_method_56_code 13 = .ok (.iload_n 0, 1) := by decide +kernel
theorem d_RR_firstClashWith_14 : decode prog_1_method_56_code 14 = .ok (.iaload, 1) := by decide +kernel
theorem d_RR_firstClashWith_15 : decode prog_1_method_56_code 15 = .ok (.aload_n 1, 1) := by decide +kernel
theorem d_RR_firstClashWith_16 : decode prog_1_method_56_code 16 = .ok (.iload_n 0, 1) := by decide +kernel
theorem d_RR_firstClashWith_17 : decode prog_1_method_56_code 17 = .ok (.iconst 1, 1) := by decide +kernel
theorem d_RR_firstClashWith_18 : decode prog_1_method_56_code 18 = .ok (.iadd, 1) := by decide +kernel
theorem d_RR_firstClashWith_19 : decode prog_1_method_56_code 19 = .ok (.iaload, 1) := by decide +kernel
theorem d_RR_firstClashWith_20 : decode prog_1_method_56_code 20 = .ok (.invokestatic 292, 3) := by decide +kernel
theorem d_RR_firstClashWith_23 : decode prog_1_method_56_code 23 = .ok (.istore_n 3, 1) := by decide +kernel
theorem d_RR_firstClashWith_24 : decode prog_1_method_56_code 24 = .ok (.iload_n 0, 1) := by decide +kernel
theorem d_RR_firstClashWith_25 : decode prog_1_method_56_code 25 = .ok (.iconst 2, 1) := by decide +kernel
theorem d_RR_firstClashWith_26 : decode prog_1_method_56_code 26 = .ok (.iadd, 1) := by decide +kernel
theorem d_RR_firstClashWith_27 : decode prog_1_method_56_code 27 = .ok (.istore 4, 2) := by decide +kernel
theorem d_RR_firstClashWith_29 : decode prog_1_method_56_code 29 = .ok (.iload 4, 2) := by decide +kernel
theorem d_RR_firstClashWith_31 : decode prog_1_method_56_code 31 = .ok (.aload_n 1, 1) := by decide +kernel
theorem d_RR_firstClashWith_32 : decode prog_1_method_56_code 32 = .ok (.arraylength, 1) := by decide +kernel
theorem d_RR_firstClashWith_33 : decode prog_1_method_56_code 33 = .ok (.iconst 1, 1) := by decide +kernel
theorem d_RR_firstClashWith_34 : decode prog_1_method_56_code 34 = .ok (.isub, 1) := by decide +kernel
theorem d_RR_firstClashWith_35 : decode prog_1_method_56_code 35 = .ok (.if_icmp .ge 35, 3) := by decide +kernel
theorem d_RR_firstClashWith_38 : decode prog_1_method_56_code 38 = .ok (.aload_n 1, 1) := by decide +kernel
theorem d_RR_firstClashWith_39 : decode prog_1_method_56_code 39 = .ok (.iload 4, 2) := by decide +kernel
theorem d_RR_firstClashWith_41 : decode prog_1_method_56_code 41 = .ok (.iaload, 1) := by decide +kernel
theorem d_RR_firstClashWith_42 : decode prog_1_method_56_code 42 = .ok (.iload_n 2, 1) := by decide +kernel
theorem d_RR_firstClashWith_43 : decode prog_1_method_56_code 43 = .ok (.iload_n 3, 1) := by decide +kernel
theorem d_RR_firstClashWith_44 : decode prog_1_method_56_code 44 = .ok (.invokestatic 295, 3) := by decide +kernel
theorem d_RR_firstClashWith_47 : decode prog_1_method_56_code 47 = .ok (.aload_n 1, 1) := by decide +kernel
theorem d_RR_firstClashWith_48 : decode prog_1_method_56_code 48 = .ok (.iload 4, 2) := by decide +kernel
theorem d_RR_firstClashWith_50 : decode prog_1_method_56_code 50 = .ok (.iconst 1, 1) := by decide +kernel
theorem d_RR_firstClashWith_51 : decode prog_1_method_56_code 51 = .ok (.iadd, 1) := by decide +kernel
theorem d_RR_firstClashWith_52 : decode prog_1_method_56_code 52 = .ok (.iaload, 1) := by decide +kernel
theorem d_RR_firstClashWith_53 : decode prog_1_method_56_code 53 = .ok (.iload_n 2, 1) := by decide +kernel
theorem d_RR_firstClashWith_54 : decode prog_1_method_56_code 54 = .ok (.iload_n 3, 1) := by decide +kernel
theorem d_RR_firstClashWith_55 : decode prog_1_method_56_code 55 = .ok (.invokestatic 295, 3) := by decide +kernel
theorem d_RR_firstClashWith_58 : decode prog_1_method_56_code 58 = .ok (.if_icmp .eq 6, 3) := by decide +kernel
theorem d_RR_firstClashWith_61 : decode prog_1_method_56_code 61 = .ok (.iload 4, 2) := by decide +kernel
theorem d_RR_firstClashWith_63 : decode prog_1_method_56_code 63 = .ok (.ireturn, 1) := by decide +kernel
theorem d_RR_firstClashWith_64 : decode prog_1_method_56_code 64 = .ok (.iinc 4 2, 3) := by decide +kernel
theorem d_RR_firstClashWith_67 : decode prog_1_method_56_code 67 = .ok (.goto (-38), 3) := by decide +kernel
theorem d_RR_firstClashWith_70 : decode prog_1_method_56_code 70 = .ok (.ldc 117, 2) := by decide +kernel
theorem d_RR_firstClashWith_72 : decode prog_1_method_56_code 72 = .ok (.ireturn, 1) := by decide +kernel
theorem d_JM_max_0 : decode prog_17_method_65_code 0 = .ok (.iload_n 0, 1) := by decide +kernel
theorem d_JM_max_1 : decode prog_17_method_65_code 1 = .ok (.iload_n 1, 1) := by decide +kernel
theorem d_JM_max_2 : decode prog_17_method_65_code 2 = .ok (.if_icmp .lt 7, 3) := by decide +kernel
theorem d_JM_max_5 : decode prog_17_method_65_code 5 = .ok (.iload_n 0, 1) := by decide +kernel
theorem d_JM_max_6 : decode prog_17_method_65_code 6 = .ok (.goto 4, 3) := by decide +kernel
theorem d_JM_max_9 : decode prog_17_method_65_code 9 = .ok (.iload_n 1, 1) := by decide +kernel
theorem d_JM_max_10 : decode prog_17_method_65_code 10 = .ok (.ireturn, 1) := by decide +kernel
theorem d_RR_isBetween_0 : decode prog_1_method_57_code 0 = .ok (.iload_n 0, 1) := by decide +kernel
theorem d_RR_isBetween_1 : decode prog_1_method_57_code 1 = .ok (.iload_n 1, 1) := by decide +kernel
theorem d_RR_isBetween_2 : decode prog_1_method_57_code 2 = .ok (.if_icmp .le 12, 3) := by decide +kernel
theorem d_RR_isBetween_5 : decode prog_1_method_57_code 5 = .ok (.iload_n 0, 1) := by decide +kernel
theorem d_RR_isBetween_6 : decode prog_1_method_57_code 6 = .ok (.iload_n 2, 1) := by decide +kernel
theorem d_RR_isBetween_7 : decode prog_1_method_57_code 7 = .ok (.if_icmp .ge 7, 3) := by decide +kernel
theorem d_RR_isBetween_10 : decode prog_1_method_57_code 10 = .ok (.iconst 1, 1) := by decide +kernel
theorem d_RR_isBetween_11 : decode prog_1_method_57_code 11 = .ok (.goto 4, 3) := by decide +kernel
theorem d_RR_isBetween_14 : decode prog_1_method_57_code 14 = .ok (.iconst 0, 1) := by decide +kernel
theorem d_RR_isBetween_15 : decode prog_1_method_57_code 15 = .ok (.ireturn, 1) := by decide +kernel
theorem d_St_init_0 : decode prog_10_method_1_code 0 = .ok (.aload_n 0, 1) := by decide +kernel
theorem d_St_init_1 : decode prog_10_method_1_code 1 = .ok (.aload_n 1, 1) := by decide +kernel
theorem d_St_init_2 : decode prog_10_method_1_code 2 = .ok (.arraylength, 1) := by decide +kernel
theorem d_St_init_3 : decode prog_10_method_1_code 3 = .ok (.invokespecial 1, 3) := by decide +kernel
theorem d_St_init_6 : decode prog_10_method_1_code 6 = .ok (.aload_n 0, 1) := by decide +kernel
theorem d_St_init_7 : decode prog_10_method_1_code 7 = .ok (.aload_n 1, 1) := by decide +kernel
theorem d_St_init_8 : decode prog_10_method_1_code 8 = .ok (.putfield 7, 3) := by decide +kernel
theorem d_St_init_11 : decode prog_10_method_1_code 11 = .ok (.aload_n 0, 1) := by decide +kernel
theorem d_St_init_12 : decode prog_10_method_1_code 12 = .ok (.aload_n 2, 1) := by decide +kernel
theorem d_St_init_13 : decode prog_10_method_1_code 13 = .ok (.putfield 13, 3) := by decide +kernel
theorem d_St_init_16 : decode prog_10_method_1_code 16 = .ok (.aload_n 0, 1) := by decide +kernel
theorem d_St_init_17 : decode prog_10_method_1_code 17 = .ok (.iload_n 3, 1) := by decide +kernel
theorem d_St_init_18 : decode prog_10_method_1_code 18 = .ok (.putfield 16, 3) := by decide +kernel
theorem d_St_init_21 : decode prog_10_method_1_code 21 = .ok (.aload_n 0, 1) := by decide +kernel
theorem d_St_init_22 : decode prog_10_method_1_code 22 = .ok (.iload 4, 2) := by decide +kernel
theorem d_St_init_24 : decode prog_10_method_1_code 24 = .ok (.putfield 20, 3) := by decide +kernel
theorem d_St_init_27 : decode prog_10_method_1_code 27 = .ok (.return_, 1) := by decide +kernel
theorem d_Fo_init_0 : decode prog_3_method_1_code 0 = .ok (.aload_n 0, 1) := by decide +kernel
theorem d_Fo_init_1 : decode prog_3_method_1_code 1 = .ok (.aload_n 1, 1) := by decide +kernel
theorem d_Fo_init_2 : decode prog_3_method_1_code 2 = .ok (.aload_n 2, 1) := by decide +kernel
theorem d_Fo_init_3 : decode prog_3_method_1_code 3 = .ok (.ldc 3, 2) := by decide +kernel
theorem d_Fo_init_5 : decode prog_3_method_1_code 5 = .ok (.ldc 3, 2) := by decide +kernel
theorem d_Fo_init_7 : decode prog_3_method_1_code 7 = .ok (.invokespecial 4, 3) := by decide +kernel
theorem d_Fo_init_10 : decode prog_3_method_1_code 10 = .ok (.return_, 1) := by decide +kernel
theorem d_RR_nth_0 : decode prog_1_method_9_code 0 = .ok (.iload_n 1, 1) := by decide +kernel
theorem d_RR_nth_1 : decode prog_1_method_9_code 1 = .ok (.invokestatic 80, 3) := by decide +kernel
theorem d_RR_nth_4 : decode prog_1_method_9_code 4 = .ok (.ifCond .eq 14, 3) := by decide +kernel
theorem d_RR_nth_7 : decode prog_1_method_9_code 7 = .ok (.iload_n 2, 1) := by decide +kernel
theorem d_RR_nth_8 : decode prog_1_method_9_code 8 = .ok (.iconst 1, 1) := by decide +kernel
theorem d_RR_nth_9 : decode prog_1_method_9_code 9 = .ok (.if_icmp .lt 9, 3) := by decide +kernel
theorem d_RR_nth_12 : decode prog_1_method_9_code 12 = .ok (.iload_n 2, 1) := by decide +kernel
theorem d_RR_nth_13 : decode prog_1_method_9_code 13 = .ok (.bipush 12, 2) := by decide +kernel
theorem d_RR_nth_15 : decode prog_1_method_9_code 15 = .ok (.if_icmp .le 6, 3) := by decide +kernel
theorem d_RR_nth_18 : decode prog_1_method_9_code 18 = .ok (.ldc 50, 2) := by decide +kernel
theorem d_RR_nth_20 : decode prog_1_method_9_code 20 = .ok (.ireturn, 1) := by decide +kernel
theorem d_RR_nth_21 : decode prog_1_method_9_code 21 = .ok (.iload_n 3, 1) := by decide +kernel
theorem d_RR_nth_22 : decode prog_1_method_9_code 22 = .ok (.ifCond .lt 13, 3) := by decide +kernel
theorem d_RR_nth_25 : decode prog_1_method_9_code 25 = .ok (.iload_n 3, 1) := by decide +kernel
theorem d_RR_nth_26 : decode prog_1_method_9_code 26 = .ok (.aload_n 0, 1) := by decide +kernel
theorem d_RR_nth_27 : decode prog_1_method_9_code 27 = .ok (.iload_n 2, 1) := by decide +kernel
theorem d_RR_nth_28 : decode prog_1_method_9_code 28 = .ok (.iload_n 2, 1) := by decide +kernel
theorem d_RR_nth_29 : decode prog_1_method_9_code 29 = .ok (.invokevirtual 113, 3) := by decide +kernel
theorem d_RR_nth_32 : decode prog_1_method_9_code 32 = .ok (.if_icmp .lt 10, 3) := by decide +kernel
theorem d_RR_nth_35 : decode prog_1_method_9_code 35 = .ok (.aload_n 0, 1) := by decide +kernel
theorem d_RR_nth_36 : decode prog_1_method_9_code 36 = .ok (.ldc 117, 2) := by decide +kernel
theorem d_RR_nth_38 : decode prog_1_method_9_code 38 = .ok (.invokevirtual 58, 3) := by decide +kernel
theorem d_RR_nth_41 : decode prog_1_method_9_code 41 = .ok (.ireturn, 1) := by decide +kernel
theorem d_RR_nth_42 : decode prog_1_method_9_code 42 = .ok (.aload_n 0, 1) := by decide +kernel
theorem d_RR_nth_43 : decode prog_1_method_9_code 43 = .ok (.iload_n 1, 1) := by decide +kernel
theorem d_RR_nth_44 : decode prog_1_method_9_code 44 = .ok (.iload_n 2, 1) := by decide +kernel
theorem d_RR_nth_45 : decode prog_1_method_9_code 45 = .ok (.aload_n 0, 1) := by decide +kernel
theorem d_RR_nth_46 : decode prog_1_method_9_code 46 = .ok (.iload_n 2, 1) := by decide +kernel
theorem d_RR_nth_47 : decode prog_1_method_9_code 47 = .ok (.iload_n 3, 1) := by decide +kernel
theorem d_RR_nth_48 : decode prog_1_method_9_code 48 = .ok (.invokevirtual 118, 3) := by decide +kernel
theorem d_RR_nth_51 : decode prog_1_method_9_code 51 = .ok (.invokestatic 122, 3) := by decide +kernel
theorem d_RR_nth_54 : decode prog_1_method_9_code 54 = .ok (.invokevirtual 87, 3) := by decide +kernel
theorem d_RR_nth_57 : decode prog_1_method_9_code 57 = .ok (.ireturn, 1) := by decide +kernel
theorem d_RR_endingsOf_0 : decode prog_1_method_49_code 0 = .ok (.iload_n 1, 1) := by decide +kernel
theorem d_RR_endingsOf_1 : decode prog_1_method_49_code 1 = .ok (.ifCond .ge 7, 3) := by decide +kernel
theorem d_RR_endingsOf_4 : decode prog_1_method_49_code 4 = .ok (.iconst 0, 1) := by decide +kernel
theorem d_RR_endingsOf_5 : decode prog_1_method_49_code 5 = .ok (.goto 13, 3) := by decide +kernel
theorem d_RR_endingsOf_8 : decode prog_1_method_49_code 8 = .ok (.aload_n 0, 1) := by decide +kernel
theorem d_RR_endingsOf_9 : decode prog_1_method_49_code 9 = .ok (.getfield 32, 3) := by decide +kernel
theorem d_RR_endingsOf_12 : decode prog_1_method_49_code 12 = .ok (.iload_n 1, 1) := by decide +kernel
theorem d_RR_endingsOf_13 : decode prog_1_method_49_code 13 = .ok (.iload_n 2, 1) := by decide +kernel
theorem d_RR_endingsOf_14 : decode prog_1_method_49_code 14 = .ok (.invokestatic 257, 3) := by decide +kernel
theorem d_RR_endingsOf_17 : decode prog_1_method_49_code 17 = .ok (.iaload, 1) := by decide +kernel
theorem d_RR_endingsOf_18 : decode prog_1_method_49_code 18 = .ok (.ireturn, 1) := by decide +kernel
theorem d_RR_plusOfRank_0 : decode prog_1_method_50_code 0 = .ok (.lconst 0, 1) := by decide +kernel
theorem d_RR_plusOfRank_1 : decode prog_1_method_50_code 1 = .ok (.lstore_n 3, 1) := by decide +kernel
theorem d_RR_plusOfRank_2 : decode prog_1_method_50_code 2 = .ok (.iload_n 2, 1) := by decide +kernel
theorem d_RR_plusOfRank_3 : decode prog_1_method_50_code 3 = .ok (.istore 5, 2) := by decide +kernel
theorem d_RR_plusOfRank_5 : decode prog_1_method_50_code 5 = .ok (.iload_n 1, 1) := by decide +kernel
theorem d_RR_plusOfRank_6 : decode prog_1_method_50_code 6 = .ok (.istore 6, 2) := by decide +kernel
theorem d_RR_plusOfRank_8 : decode prog_1_method_50_code 8 = .ok (.iload_n 1, 1) := by decide +kernel
theorem d_RR_plusOfRank_9 : decode prog_1_method_50_code 9 = .ok (.istore 7, 2) := by decide +kernel
theorem d_RR_plusOfRank_11 : decode prog_1_method_50_code 11 = .ok (.iconst 0, 1) := by decide +kernel
theorem d_RR_plusOfRank_12 : decode prog_1_method_50_code 12 = .ok (.istore 8, 2) := by decide +kernel
theorem d_RR_plusOfRank_14 : decode prog_1_method_50_code 14 = .ok (.iload 8, 2) := by decide +kernel
theorem d_RR_plusOfRank_16 : decode prog_1_method_50_code 16 = .ok (.iconst 2, 1) := by decide +kernel
theorem d_RR_plusOfRank_17 : decode prog_1_method_50_code 17 = .ok (.iload_n 1, 1) := by decide +kernel
theorem d_RR_plusOfRank_18 : decode prog_1_method_50_code 18 = .ok (.imul, 1) := by decide +kernel
theorem d_RR_plusOfRank_19 : decode prog_1_method_50_code 19 = .ok (.if_icmp .ge 51, 3) := by decide +kernel
theorem d_RR_plusOfRank_22 : decode prog_1_method_50_code 22 = .ok (.aload_n 0, 1) := by decide +kernel
theorem d_RR_plusOfRank_23 : decode prog_1_method_50_code 23 = .ok (.iload 6, 2) := by decide +kernel
theorem d_RR_plusOfRank_25 : decode prog_1_method_50_code 25 = .ok (.iconst 1, 1) := by decide +kernel
theorem d_RR_plusOfRank_26 : decode prog_1_method_50_code 26 = .ok (.isub, 1) := by decide +kernel
theorem d_RR_plusOfRank_27 : decode prog_1_method_50_code 27 = .ok (.iload 7, 2) := by decide +kernel
theorem d_RR_plusOfRank_29 : decode prog_1_method_50_code 29 = .ok (.invokevirtual 113, 3) := by decide +kernel
theorem d_RR_plusOfRank_32 : decode prog_1_method_50_code 32 = .ok (.istore 9, 2) := by decide +kernel
theorem d_RR_plusOfRank_34 : decode prog_1_method_50_code 34 = .ok (.iload 5, 2) := by decide +kernel
theorem d_RR_plusOfRank_36 : decode prog_1_method_50_code 36 = .ok (.iload 9, 2) := by decide +kernel
theorem d_RR_plusOfRank_38 : decode prog_1_method_50_code 38 = .ok (.if_icmp .ge 16, 3) := by decide +kernel
theorem d_RR_plusOfRank_41 : decode prog_1_method_50_code 41 = .ok (.lload_n 3, 1) := by decide +kernel
theorem d_RR_plusOfRank_42 : decode prog_1_method_50_code 42 = .ok (.lconst 1, 1) := by decide +kernel
theorem d_RR_plusOfRank_43 : decode prog_1_method_50_code 43 = .ok (.iload 8, 2) := by decide +kernel
theorem d_RR_plusOfRank_45 : decode prog_1_method_50_code 45 = .ok (.lshl, 1) := by decide +kernel
theorem d_RR_plusOfRank_46 : decode prog_1_method_50_code 46 = .ok (.lor, 1) := by decide +kernel
theorem d_RR_plusOfRank_47 : decode prog_1_method_50_code 47 = .ok (.lstore_n 3, 1) := by decide +kernel
theorem d_RR_plusOfRank_48 : decode prog_1_method_50_code 48 = .ok (.iinc 6 (-1), 3) := by decide +kernel
theorem d_RR_plusOfRank_51 : decode prog_1_method_50_code 51 = .ok (.goto 13, 3) := by decide +kernel
theorem d_RR_plusOfRank_54 : decode prog_1_method_50_code 54 = .ok (.iload 5, 2) := by decide +kernel
theorem d_RR_plusOfRank_56 : decode prog_1_method_50_code 56 = .ok (.iload 9, 2) := by decide +kernel
theorem d_RR_plusOfRank_58 : decode prog_1_method_50_code 58 = .ok (.isub, 1) := by decide +kernel
theorem d_RR_plusOfRank_59 : decode prog_1_method_50_code 59 = .ok (.istore 5, 2) := by decide +kernel
theorem d_RR_plusOfRank_61 : decode prog_1_method_50_code 61 = .ok (.iinc 7 (-1), 3) := by decide +kernel
theorem d_RR_plusOfRank_64 : decode prog_1_method_50_code 64 = .ok (.iinc 8 1, 3) := by decide +kernel
theorem d_RR_plusOfRank_67 : decode prog_1_method_50_code 67 = .ok (.goto (-53), 3) := by decide +kernel
theorem d_RR_plusOfRank_70 : decode prog_1_method_50_code 70 = .ok (.lload_n 3, 1) := by decide +kernel
theorem d_RR_plusOfRank_71 : decode prog_1_method_50_code 71 = .ok (.lreturn, 1) := by decide +kernel
theorem d_RR_turn_0 : decode prog_1_method_10_code 0 = .ok (.iload_n 1, 1) := by decide +kernel
theorem d_RR_turn_1 : decode prog_1_method_10_code 1 = .ok (.invokestatic 80, 3) := by decide +kernel
theorem d_RR_turn_4 : decode prog_1_method_10_code 4 = .ok (.ifCond .eq 10, 3) := by decide +kernel
theorem d_RR_turn_7 : decode prog_1_method_10_code 7 = .ok (.iload_n 2, 1) := by decide +kernel
theorem d_RR_turn_8 : decode prog_1_method_10_code 8 = .ok (.invokestatic 80, 3) := by decide +kernel
theorem d_RR_turn_11 : decode prog_1_method_10_code 11 = .ok (.ifCond .ne 6, 3) := by decide +kernel
theorem d_RR_turn_14 : decode prog_1_method_10_code 14 = .ok (.ldc 50, 2) := by decide +kernel
theorem d_RR_turn_16 : decode prog_1_method_10_code 16 = .ok (.ireturn, 1) := by decide +kernel
theorem d_RR_turn_17 : decode prog_1_method_10_code 17 = .ok (.aload_n 0, 1) := by decide +kernel
theorem d_RR_turn_18 : decode prog_1_method_10_code 18 = .ok (.getfield 17, 3) := by decide +kernel
theorem d_RR_turn_21 : decode prog_1_method_10_code 21 = .ok (.iload_n 2, 1) := by decide +kernel
theorem d_RR_turn_22 : decode prog_1_method_10_code 22 = .ok (.aaload, 1) := by decide +kernel
theorem d_RR_turn_23 : decode prog_1_method_10_code 23 = .ok (.astore 4, 2) := by decide +kernel
theorem d_RR_turn_25 : decode prog_1_method_10_code 25 = .ok (.aload 4, 2) := by decide +kernel
theorem d_RR_turn_27 : decode prog_1_method_10_code 27 = .ok (.instanceof 91, 3) := by decide +kernel
theorem d_RR_turn_30 : decode prog_1_method_10_code 30 = .ok (.ifCond .eq 12, 3) := by decide +kernel
theorem d_RR_turn_33 : decode prog_1_method_10_code 33 = .ok (.aload 4, 2) := by decide +kernel
theorem d_RR_turn_35 : decode prog_1_method_10_code 35 = .ok (.checkcast 91, 3) := by decide +kernel
theorem d_RR_turn_38 : decode prog_1_method_10_code 38 = .ok (.astore_n 3, 1) := by decide +kernel
theorem d_RR_turn_39 : decode prog_1_method_10_code 39 = .ok (.goto 9, 3) := by decide +kernel
theorem d_RR_turn_42 : decode prog_1_method_10_code 42 = .ok (.aload_n 0, 1) := by decide +kernel
theorem d_RR_turn_43 : decode prog_1_method_10_code 43 = .ok (.iload_n 2, 1) := by decide +kernel
theorem d_RR_turn_44 : decode prog_1_method_10_code 44 = .ok (.invokevirtual 93, 3) := by decide +kernel
theorem d_RR_turn_47 : decode prog_1_method_10_code 47 = .ok (.ireturn, 1) := by decide +kernel
theorem d_RR_turn_48 : decode prog_1_method_10_code 48 = .ok (.aload_n 3, 1) := by decide +kernel
theorem d_RR_turn_49 : decode prog_1_method_10_code 49 = .ok (.getfield 126, 3) := by decide +kernel
theorem d_RR_turn_52 : decode prog_1_method_10_code 52 = .ok (.iconst 1, 1) := by decide +kernel
theorem d_RR_turn_53 : decode prog_1_method_10_code 53 = .ok (.lshr, 1) := by decide +kernel
theorem d_RR_turn_54 : decode prog_1_method_10_code 54 = .ok (.lconst 1, 1) := by decide +kernel
theorem d_RR_turn_55 : decode prog_1_method_10_code 55 = .ok (.aload_n 3, 1) := by decide +kernel
theorem d_RR_turn_56 : decode prog_1_method_10_code 56 = .ok (.getfield 130, 3) := by decide +kernel
theorem d_RR_turn_59 : decode prog_1_method_10_code 59 = .ok (.iconst 0, 1) := by decide +kernel
theorem d_RR_turn_60 : decode prog_1_method_10_code 60 = .ok (.iaload, 1) := by decide +kernel
theorem d_RR_turn_61 : decode prog_1_method_10_code 61 = .ok (.iconst 1, 1) := by decide +kernel
theorem d_RR_turn_62 : decode prog_1_method_10_code 62 = .ok (.isub, 1) := by decide +kernel
theorem d_RR_turn_63 : decode prog_1_method_10_code 63 = .ok (.lshl, 1) := by decide +kernel
theorem d_RR_turn_64 : decode prog_1_method_10_code 64 = .ok (.lor, 1) := by decide +kernel
theorem d_RR_turn_65 : decode prog_1_method_10_code 65 = .ok (.lstore 4, 2) := by decide +kernel
theorem d_RR_turn_67 : decode prog_1_method_10_code 67 = .ok (.aload_n 0, 1) := by decide +kernel
theorem d_RR_turn_68 : decode prog_1_method_10_code 68 = .ok (.iload_n 1, 1) := by decide +kernel
theorem d_RR_turn_69 : decode prog_1_method_10_code 69 = .ok (.aload_n 3, 1) := by decide +kernel
theorem d_RR_turn_70 : decode prog_1_method_10_code 70 = .ok (.getfield 96, 3) := by decide +kernel
theorem d_RR_turn_73 : decode prog_1_method_10_code 73 = .ok (.lload 4, 2) := by decide +kernel
theorem d_RR_turn_75 : decode prog_1_method_10_code 75 = .ok (.invokestatic 122, 3) := by decide +kernel
theorem d_RR_turn_78 : decode prog_1_method_10_code 78 = .ok (.invokevirtual 87, 3) := by decide +kernel
theorem d_RR_turn_81 : decode prog_1_method_10_code 81 = .ok (.ireturn, 1) := by decide +kernel
theorem d_RR_mirror_0 : decode prog_1_method_11_code 0 = .ok (.iload_n 1, 1) := by decide +kernel
theorem d_RR_mirror_1 : decode prog_1_method_11_code 1 = .ok (.invokestatic 80, 3) := by decide +kernel
theorem d_RR_mirror_4 : decode prog_1_method_11_code 4 = .ok (.ifCond .eq 10, 3) := by decide +kernel
theorem d_RR_mirror_7 : decode prog_1_method_11_code 7 = .ok (.iload_n 2, 1) := by decide +kernel
theorem d_RR_mirror_8 : decode prog_1_method_11_code 8 = .ok (.invokestatic 80, 3) := by decide +kernel
theorem d_RR_mirror_11 : decode prog_1_method_11_code 11 = .ok (.ifCond .ne 6, 3) := by decide +kernel
theorem d_RR_mirror_14 : decode prog_1_method_11_code 14 = .ok (.ldc 50, 2) := by decide +kernel
theorem d_RR_mirror_16 : decode prog_1_method_11_code 16 = .ok (.ireturn, 1) := by decide +kernel
theorem d_RR_mirror_17 : decode prog_1_method_11_code 17 = .ok (.aload_n 0, 1) := by decide +kernel
theorem d_RR_mirror_18 : decode prog_1_method_11_code 18 = .ok (.getfield 17, 3) := by decide +kernel
theorem d_RR_mirror_21 : decode prog_1_method_11_code 21 = .ok (.iload_n 2, 1) := by decide +kernel
theorem d_RR_mirror_22 : decode prog_1_method_11_code 22 = .ok (.aaload, 1) := by decide +kernel
theorem d_RR_mirror_23 : decode prog_1_method_11_code 23 = .ok (.astore 4, 2) := by decide +kernel
theorem d_RR_mirror_25 : decode prog_1_method_11_code 25 = .ok (.aload 4, 2) := by decide +kernel
theorem d_RR_mirror_27 : decode prog_1_method_11_code 27 = .ok (.instanceof 91, 3) := by decide +kernel
theorem d_RR_mirror_30 : decode prog_1_method_11_code 30 = .ok (.ifCond .eq 19, 3) := by decide +kernel
theorem d_RR_mirror_33 : decode prog_1_method_11_code 33 = .ok (.aload 4, 2) := by decide +kernel
theorem d_RR_mirror_35 : decode prog_1_method_11_code 35 = .ok (.checkcast 91, 3) := by decide +kernel
theorem d_RR_mirror_38 : decode prog_1_method_11_code 38 = .ok (.astore_n 3, 1) := by decide +kernel
theorem d_RR_mirror_39 : decode prog_1_method_11_code 39 = .ok (.aload_n 0, 1) := by decide +kernel
theorem d_RR_mirror_40 : decode prog_1_method_11_code 40 = .ok (.iload_n 1, 1) := by decide +kernel
theorem d_RR_mirror_41 : decode prog_1_method_11_code 41 = .ok (.aload_n 3, 1) := by decide +kernel
theorem d_RR_mirror_42 : decode prog_1_method_11_code 42 = .ok (.invokestatic 133, 3) := by decide +kernel
theorem d_RR_mirror_45 : decode prog_1_method_11_code 45 = .ok (.invokevirtual 87, 3) := by decide +kernel
theorem d_RR_mirror_48 : decode prog_1_method_11_code 48 = .ok (.ireturn, 1) := by decide +kernel
theorem d_RR_mirror_49 : decode prog_1_method_11_code 49 = .ok (.aload_n 0, 1) := by decide +kernel
theorem d_RR_mirror_50 : decode prog_1_method_11_code 50 = .ok (.getfield 17, 3) := by decide +kernel
theorem d_RR_mirror_53 : decode prog_1_method_11_code 53 = .ok (.iload_n 2, 1) := by decide +kernel
theorem d_RR_mirror_54 : decode prog_1_method_11_code 54 = .ok (.aaload, 1) := by decide +kernel
theorem d_RR_mirror_55 : decode prog_1_method_11_code 55 = .ok (.astore 4, 2) := by decide +kernel
theorem d_RR_mirror_57 : decode prog_1_method_11_code 57 = .ok (.aload 4, 2) := by decide +kernel
theorem d_RR_mirror_59 : decode prog_1_method_11_code 59 = .ok (.instanceof 137, 3) := by decide +kernel
theorem d_RR_mirror_62 : decode prog_1_method_11_code 62 = .ok (.ifCond .eq 32, 3) := by decide +kernel
theorem d_RR_mirror_65 : decode prog_1_method_11_code 65 = .ok (.aload 4, 2) := by decide +kernel
theorem d_RR_mirror_67 : decode prog_1_method_11_code 67 = .ok (.checkcast 137, 3) := by decide +kernel
theorem d_RR_mirror_70 : decode prog_1_method_11_code 70 = .ok (.astore_n 3, 1) := by decide +kernel
theorem d_RR_mirror_71 : decode prog_1_method_11_code 71 = .ok (.aload_n 0, 1) := by decide +kernel
theorem d_RR_mirror_72 : decode prog_1_method_11_code 72 = .ok (.iload_n 1, 1) := by decide +kernel
theorem d_RR_mirror_73 : decode prog_1_method_11_code 73 = .ok (.aload_n 3, 1) := by decide +kernel
theorem d_RR_mirror_74 : decode prog_1_method_11_code 74 = .ok (.getfield 139, 3) := by decide +kernel
theorem d_RR_mirror_77 : decode prog_1_method_11_code 77 = .ok (.invokestatic 133, 3) := by decide +kernel
theorem d_RR_mirror_80 : decode prog_1_method_11_code 80 = .ok (.aload_n 3, 1) := by decide +kernel
theorem d_RR_mirror_81 : decode prog_1_method_11_code 81 = .ok (.getfield 143, 3) := by decide +kernel
theorem d_RR_mirror_84 : decode prog_1_method_11_code 84 = .ok (.invokestatic 133, 3) := by decide +kernel
theorem d_RR_mirror_87 : decode prog_1_method_11_code 87 = .ok (.invokestatic 99, 3) := by decide +kernel
theorem d_RR_mirror_90 : decode prog_1_method_11_code 90 = .ok (.invokevirtual 87, 3) := by decide +kernel
theorem d_RR_mirror_93 : decode prog_1_method_11_code 93 = .ok (.ireturn, 1) := by decide +kernel
theorem d_RR_mirror_94 : decode prog_1_method_11_code 94 = .ok (.aload_n 0, 1) := by decide +kernel
theorem d_RR_mirror_95 : decode prog_1_method_11_code 95 = .ok (.iload_n 2, 1) := by decide +kernel
theorem d_RR_mirror_96 : decode prog_1_method_11_code 96 = .ok (.invokevirtual 93, 3) := by decide +kernel
theorem d_RR_mirror_99 : decode prog_1_method_11_code 99 = .ok (.ireturn, 1) := by decide +kernel
theorem d_RR_mirrored_0 : decode prog_1_method_46_code 0 = .ok (.iconst 2, 1) := by decide +kernel
theorem d_RR_mirrored_1 : decode prog_1_method_46_code 1 = .ok (.aload_n 0, 1) := by decide +kernel
theorem d_RR_mirrored_2 : decode prog_1_method_46_code 2 = .ok (.getfield 96, 3) := by decide +kernel
theorem d_RR_mirrored_5 : decode prog_1_method_46_code 5 = .ok (.imul, 1) := by decide +kernel
theorem d_RR_mirrored_6 : decode prog_1_method_46_code 6 = .ok (.iconst 1, 1) := by decide +kernel
theorem d_RR_mirrored_7 : decode prog_1_method_46_code 7 = .ok (.isub, 1) := by decide +kernel
theorem d_RR_mirrored_8 : decode prog_1_method_46_code 8 = .ok (.istore_n 1, 1) := by decide +kernel
theorem d_RR_mirrored_9 : decode prog_1_method_46_code 9 = .ok (.lconst 0, 1) := by decide +kernel
theorem d_RR_mirrored_10 : decode prog_1_method_46_code 10 = .ok (.lstore_n 2, 1) := by decide +kernel
theorem d_RR_mirrored_11 : decode prog_1_method_46_code 11 = .ok (.iconst 0, 1) := by decide +kernel
theorem d_RR_mirrored_12 : decode prog_1_method_46_code 12 = .ok (.istore 4, 2) := by decide +kernel
theorem d_RR_mirrored_14 : decode prog_1_method_46_code 14 = .ok (.iload 4, 2) := by decide +kernel
theorem d_RR_mirrored_16 : decode prog_1_method_46_code 16 = .ok (.iload_n 1, 1) := by decide +kernel
theorem d_RR_mirrored_17 : decode prog_1_method_46_code 17 = .ok (.if_icmp .gt 30, 3) := by decide +kernel
theorem d_RR_mirrored_20 : decode prog_1_method_46_code 20 = .ok (.aload_n 0, 1) := by decide +kernel
theorem d_RR_mirrored_21 : decode prog_1_method_46_code 21 = .ok (.getfield 126, 3) := by decide +kernel
theorem d_RR_mirrored_24 : decode prog_1_method_46_code 24 = .ok (.iload_n 1, 1) := by decide +kernel
theorem d_RR_mirrored_25 : decode prog_1_method_46_code 25 = .ok (.iload 4, 2) := by decide +kernel
theorem d_RR_mirrored_27 : decode prog_1_method_46_code 27 = .ok (.isub, 1) := by decide +kernel
theorem d_RR_mirrored_28 : decode prog_1_method_46_code 28 = .ok (.invokestatic 178, 3) := by decide +kernel
theorem d_RR_mirrored_31 : decode prog_1_method_46_code 31 = .ok (.ifCond .ne 10, 3) := by decide +kernel
theorem d_RR_mirrored_34 : decode prog_1_method_46_code 34 = .ok (.lload_n 2, 1) := by decide +kernel
theorem d_RR_mirrored_35 : decode prog_1_method_46_code 35 = .ok (.lconst 1, 1) := by decide +kernel
theorem d_RR_mirrored_36 : decode prog_1_method_46_code 36 = .ok (.iload 4, 2) := by decide +kernel
theorem d_RR_mirrored_38 : decode prog_1_method_46_code 38 = .ok (.lshl, 1) := by decide +kernel
theorem d_RR_mirrored_39 : decode prog_1_method_46_code 39 = .ok (.lor, 1) := by decide +kernel
theorem d_RR_mirrored_40 : decode prog_1_method_46_code 40 = .ok (.lstore_n 2, 1) := by decide +kernel
theorem d_RR_mirrored_41 : decode prog_1_method_46_code 41 = .ok (.iinc 4 1, 3) := by decide +kernel
theorem d_RR_mirrored_44 : decode prog_1_method_46_code 44 = .ok (.goto (-30), 3) := by decide +kernel
theorem d_RR_mirrored_47 : decode prog_1_method_46_code 47 = .ok (.aload_n 0, 1) := by decide +kernel
theorem d_RR_mirrored_48 : decode prog_1_method_46_code 48 = .ok (.getfield 96, 3) := by decide +kernel
theorem d_RR_mirrored_51 : decode prog_1_method_46_code 51 = .ok (.lload_n 2, 1) := by decide +kernel
theorem d_RR_mirrored_52 : decode prog_1_method_46_code 52 = .ok (.invokestatic 122, 3) := by decide +kernel
theorem d_RR_mirrored_55 : decode prog_1_method_46_code 55 = .ok (.areturn, 1) := by decide +kernel
theorem d_RR_clear_0 : decode prog_1_method_12_code 0 = .ok (.iload_n 1, 1) := by decide +kernel
theorem d_RR_clear_1 : decode prog_1_method_12_code 1 = .ok (.invokestatic 80, 3) := by decide +kernel
theorem d_RR_clear_4 : decode prog_1_method_12_code 4 = .ok (.ifCond .ne 6, 3) := by decide +kernel
theorem d_RR_clear_7 : decode prog_1_method_12_code 7 = .ok (.ldc 50, 2) := by decide +kernel
theorem d_RR_clear_9 : decode prog_1_method_12_code 9 = .ok (.ireturn, 1) := by decide +kernel
theorem d_RR_clear_10 : decode prog_1_method_12_code 10 = .ok (.aload_n 0, 1) := by decide +kernel
theorem d_RR_clear_11 : decode prog_1_method_12_code 11 = .ok (.getfield 17, 3) := by decide +kernel
theorem d_RR_clear_14 : decode prog_1_method_12_code 14 = .ok (.iload_n 1, 1) := by decide +kernel
theorem d_RR_clear_15 : decode prog_1_method_12_code 15 = .ok (.aaload, 1) := by decide +kernel
theorem d_RR_clear_16 : decode prog_1_method_12_code 16 = .ok (.ifnonnull 7, 3) := by decide +kernel
theorem d_RR_clear_19 : decode prog_1_method_12_code 19 = .ok (.iconst 0, 1) := by decide +kernel
theorem d_RR_clear_20 : decode prog_1_method_12_code 20 = .ok (.goto 4, 3) := by decide +kernel
theorem d_RR_clear_23 : decode prog_1_method_12_code 23 = .ok (.iconst 1, 1) := by decide +kernel
theorem d_RR_clear_24 : decode prog_1_method_12_code 24 = .ok (.istore_n 2, 1) := by decide +kernel
theorem d_RR_clear_25 : decode prog_1_method_12_code 25 = .ok (.aload_n 0, 1) := by decide +kernel
theorem d_RR_clear_26 : decode prog_1_method_12_code 26 = .ok (.getfield 17, 3) := by decide +kernel
theorem d_RR_clear_29 : decode prog_1_method_12_code 29 = .ok (.iload_n 1, 1) := by decide +kernel
theorem d_RR_clear_30 : decode prog_1_method_12_code 30 = .ok (.aconst_null, 1) := by decide +kernel
theorem d_RR_clear_31 : decode prog_1_method_12_code 31 = .ok (.aastore, 1) := by decide +kernel
theorem d_RR_clear_32 : decode prog_1_method_12_code 32 = .ok (.iload_n 2, 1) := by decide +kernel
theorem d_RR_clear_33 : decode prog_1_method_12_code 33 = .ok (.ireturn, 1) := by decide +kernel
theorem d_RR_kind_0 : decode prog_1_method_13_code 0 = .ok (.iload_n 1, 1) := by decide +kernel
theorem d_RR_kind_1 : decode prog_1_method_13_code 1 = .ok (.invokestatic 80, 3) := by decide +kernel
theorem d_RR_kind_4 : decode prog_1_method_13_code 4 = .ok (.ifCond .ne 6, 3) := by decide +kernel
theorem d_RR_kind_7 : decode prog_1_method_13_code 7 = .ok (.ldc 50, 2) := by decide +kernel
theorem d_RR_kind_9 : decode prog_1_method_13_code 9 = .ok (.ireturn, 1) := by decide +kernel
theorem d_RR_kind_10 : decode prog_1_method_13_code 10 = .ok (.aload_n 0, 1) := by decide +kernel
theorem d_RR_kind_11 : decode prog_1_method_13_code 11 = .ok (.getfield 17, 3) := by decide +kernel
theorem d_RR_kind_14 : decode prog_1_method_13_code 14 = .ok (.iload_n 1, 1) := by decide +kernel
theorem d_RR_kind_15 : decode prog_1_method_13_code 15 = .ok (.aaload, 1) := by decide +kernel
theorem d_RR_kind_16 : decode prog_1_method_13_code 16 = .ok (.astore_n 2, 1) := by decide +kernel
theorem d_RR_kind_17 : decode prog_1_method_13_code 17 = .ok (.aload_n 2, 1) := by decide +kernel
theorem d_RR_kind_18 : decode prog_1_method_13_code 18 = .ok (.ifnonnull 11, 3) := by decide +kernel
theorem d_RR_kind_21 : decode prog_1_method_13_code 21 = .ok (.aload_n 0, 1) := by decide +kernel
theorem d_RR_kind_22 : decode prog_1_method_13_code 22 = .ok (.iconst 1, 1) := by decide +kernel
theorem d_RR_kind_23 : decode prog_1_method_13_code 23 = .ok (.invokevirtual 51, 3) := by decide +kernel
theorem d_RR_kind_26 : decode prog_1_method_13_code 26 = .ok (.goto 11, 3) := by decide +kernel
theorem d_RR_kind_29 : decode prog_1_method_13_code 29 = .ok (.aload_n 0, 1) := by decide +kernel
theorem d_RR_kind_30 : decode prog_1_method_13_code 30 = .ok (.aload_n 2, 1) := by decide +kernel
theorem d_RR_kind_31 : decode prog_1_method_13_code 31 = .ok (.invokevirtual 146, 3) := by decide +kernel
theorem d_RR_kind_34 : decode prog_1_method_13_code 34 = .ok (.invokevirtual 58, 3) := by decide +kernel
theorem d_RR_kind_37 : decode prog_1_method_13_code 37 = .ok (.ireturn, 1) := by decide +kernel
theorem d_RR_is_0 : decode prog_1_method_14_code 0 = .ok (.iload_n 1, 1) := by decide +kernel
theorem d_RR_is_1 : decode prog_1_method_14_code 1 = .ok (.invokestatic 80, 3) := by decide +kernel
theorem d_RR_is_4 : decode prog_1_method_14_code 4 = .ok (.ifCond .eq 13, 3) := by decide +kernel
theorem d_RR_is_7 : decode prog_1_method_14_code 7 = .ok (.iload_n 2, 1) := by decide +kernel
theorem d_RR_is_8 : decode prog_1_method_14_code 8 = .ok (.ifCond .lt 9, 3) := by decide +kernel
theorem d_RR_is_11 : decode prog_1_method_14_code 11 = .ok (.iload_n 2, 1) := by decide +kernel
theorem d_RR_is_12 : decode prog_1_method_14_code 12 = .ok (.bipush 9, 2) := by decide +kernel
theorem d_RR_is_14 : decode prog_1_method_14_code 14 = .ok (.if_icmp .lt 6, 3) := by decide +kernel
theorem d_RR_is_17 : decode prog_1_method_14_code 17 = .ok (.ldc 50, 2) := by decide +kernel
theorem d_RR_is_19 : decode prog_1_method_14_code 19 = .ok (.ireturn, 1) := by decide +kernel
theorem d_RR_is_20 : decode prog_1_method_14_code 20 = .ok (.aload_n 0, 1) := by decide +kernel
theorem d_RR_is_21 : decode prog_1_method_14_code 21 = .ok (.getfield 17, 3) := by decide +kernel
theorem d_RR_is_24 : decode prog_1_method_14_code 24 = .ok (.iload_n 1, 1) := by decide +kernel
theorem d_RR_is_25 : decode prog_1_method_14_code 25 = .ok (.aaload, 1) := by decide +kernel
theorem d_RR_is_26 : decode prog_1_method_14_code 26 = .ok (.iload_n 2, 1) := by decide +kernel
theorem d_RR_is_27 : decode prog_1_method_14_code 27 = .ok (.invokestatic 150, 3) := by decide +kernel
theorem d_RR_is_30 : decode prog_1_method_14_code 30 = .ok (.ifCond .eq 7, 3) := by decide +kernel
theorem d_RR_is_33 : decode prog_1_method_14_code 33 = .ok (.iconst 1, 1) := by decide +kernel
theorem d_RR_is_34 : decode prog_1_method_14_code 34 = .ok (.goto 4, 3) := by decide +kernel
theorem d_RR_is_37 : decode prog_1_method_14_code 37 = .ok (.iconst 0, 1) := by decide +kernel
theorem d_RR_is_38 : decode prog_1_method_14_code 38 = .ok (.ireturn, 1) := by decide +kernel
theorem d_RR_isOfKind_0 : decode prog_1_method_40_code 0 = .ok (.iload_n 1, 1) := by decide +kernel
theorem d_RR_isOfKind_1 : decode prog_1_method_40_code 1 = .ok (.tableswitch 92 0 7 #[47, 57, 62, 67, 72, 77, 82, 87], 47) := by decide +kernel
theorem d_RR_isOfKind_48 : decode prog_1_method_40_code 48 = .ok (.aload_n 0, 1) := by decide +kernel
theorem d_RR_isOfKind_49 : decode prog_1_method_40_code 49 = .ok (.ifnull 7, 3) := by decide +kernel
theorem d_RR_isOfKind_52 : decode prog_1_method_40_code 52 = .ok (.iconst 1, 1) := by decide +kernel
theorem d_RR_isOfKind_53 : decode prog_1_method_40_code 53 = .ok (.goto 4, 3) := by decide +kernel
theorem d_RR_isOfKind_56 : decode prog_1_method_40_code 56 = .ok (.iconst 0, 1) := by decide +kernel
theorem d_RR_isOfKind_57 : decode prog_1_method_40_code 57 = .ok (.ireturn, 1) := by decide +kernel
theorem d_RR_isOfKind_58 : decode prog_1_method_40_code 58 = .ok (.aload_n 0, 1) := by decide +kernel
theorem d_RR_isOfKind_59 : decode prog_1_method_40_code 59 = .ok (.instanceof 171, 3) := by decide +kernel
theorem d_RR_isOfKind_62 : decode prog_1_method_40_code 62 = .ok (.ireturn, 1) := by decide +kernel
theorem d_RR_isOfKind_63 : decode prog_1_method_40_code 63 = .ok (.aload_n 0, 1) := by decide +kernel
theorem d_RR_isOfKind_64 : decode prog_1_method_40_code 64 = .ok (.instanceof 91, 3) := by decide +kernel
theorem d_RR_isOfKind_67 : decode prog_1_method_40_code 67 = .ok (.ireturn, 1) := by decide +kernel
theorem d_RR_isOfKind_68 : decode prog_1_method_40_code 68 = .ok (.aload_n 0, 1) := by decide +kernel
theorem d_RR_isOfKind_69 : decode prog_1_method_40_code 69 = .ok (.instanceof 231, 3) := by decide +kernel
theorem d_RR_isOfKind_72 : decode prog_1_method_40_code 72 = .ok (.ireturn, 1) := by decide +kernel
theorem d_RR_isOfKind_73 : decode prog_1_method_40_code 73 = .ok (.aload_n 0, 1) := by decide +kernel
theorem d_RR_isOfKind_74 : decode prog_1_method_40_code 74 = .ok (.instanceof 233, 3) := by decide +kernel
theorem d_RR_isOfKind_77 : decode prog_1_method_40_code 77 = .ok (.ireturn, 1) := by decide +kernel
theorem d_RR_isOfKind_78 : decode prog_1_method_40_code 78 = .ok (.aload_n 0, 1) := by decide +kernel
theorem d_RR_isOfKind_79 : decode prog_1_method_40_code 79 = .ok (.instanceof 137, 3) := by decide +kernel
theorem d_RR_isOfKind_82 : decode prog_1_method_40_code 82 = .ok (.ireturn, 1) := by decide +kernel
theorem d_RR_isOfKind_83 : decode prog_1_method_40_code 83 = .ok (.aload_n 0, 1) := by decide +kernel
theorem d_RR_isOfKind_84 : decode prog_1_method_40_code 84 = .ok (.instanceof 235, 3) := by decide +kernel
theorem d_RR_isOfKind_87 : decode prog_1_method_40_code 87 = .ok (.ireturn, 1) := by decide +kernel
theorem d_RR_isOfKind_88 : decode prog_1_method_40_code 88 = .ok (.aload_n 0, 1) := by decide +kernel
theorem d_RR_isOfKind_89 : decode prog_1_method_40_code 89 = .ok (.instanceof 205, 3) := by decide +kernel
theorem d_RR_isOfKind_92 : decode prog_1_method_40_code 92 = .ok (.ireturn, 1) := by decide +kernel
theorem d_RR_isOfKind_93 : decode prog_1_method_40_code 93 = .ok (.aload_n 0, 1) := by decide +kernel
theorem d_RR_isOfKind_94 : decode prog_1_method_40_code 94 = .ok (.instanceof 237, 3) := by decide +kernel
theorem d_RR_isOfKind_97 : decode prog_1_method_40_code 97 = .ok (.ireturn, 1) := by decide +kernel
theorem d_RR_as_0 : decode prog_1_method_15_code 0 = .ok (.iload_n 1, 1) := by decide +kernel
theorem d_RR_as_1 : decode prog_1_method_15_code 1 = .ok (.invokestatic 80, 3) := by decide +kernel
theorem d_RR_as_4 : decode prog_1_method_15_code 4 = .ok (.ifCond .eq 13, 3) := by decide +kernel
theorem d_RR_as_7 : decode prog_1_method_15_code 7 = .ok (.iload_n 2, 1) := by decide +kernel
theorem d_RR_as_8 : decode prog_1_method_15_code 8 = .ok (.ifCond .lt 9, 3) := by decide +kernel
theorem d_RR_as_11 : decode prog_1_method_15_code 11 = .ok (.iload_n 2, 1) := by decide +kernel
theorem d_RR_as_12 : decode prog_1_method_15_code 12 = .ok (.bipush 9, 2) := by decide +kernel
theorem d_RR_as_14 : decode prog_1_method_15_code 14 = .ok (.if_icmp .lt 6, 3) := by decide +kernel
theorem d_RR_as_17 : decode prog_1_method_15_code 17 = .ok (.ldc 50, 2) := by decide +kernel
theorem d_RR_as_19 : decode prog_1_method_15_code 19 = .ok (.ireturn, 1) := by decide +kernel
theorem d_RR_as_20 : decode prog_1_method_15_code 20 = .ok (.aload_n 0, 1) := by decide +kernel
theorem d_RR_as_21 : decode prog_1_method_15_code 21 = .ok (.getfield 17, 3) := by decide +kernel
theorem d_RR_as_24 : decode prog_1_method_15_code 24 = .ok (.iload_n 1, 1) := by decide +kernel
theorem d_RR_as_25 : decode prog_1_method_15_code 25 = .ok (.aaload, 1) := by decide +kernel
theorem d_RR_as_26 : decode prog_1_method_15_code 26 = .ok (.astore_n 3, 1) := by decide +kernel
theorem d_RR_as_27 : decode prog_1_method_15_code 27 = .ok (.aload_n 3, 1) := by decide +kernel
theorem d_RR_as_28 : decode prog_1_method_15_code 28 = .ok (.ifnonnull 9, 3) := by decide +kernel
theorem d_RR_as_31 : decode prog_1_method_15_code 31 = .ok (.aload_n 0, 1) := by decide +kernel
theorem d_RR_as_32 : decode prog_1_method_15_code 32 = .ok (.iconst 1, 1) := by decide +kernel
theorem d_RR_as_33 : decode prog_1_method_15_code 33 = .ok (.invokevirtual 51, 3) := by decide +kernel
theorem d_RR_as_36 : decode prog_1_method_15_code 36 = .ok (.ireturn, 1) := by decide +kernel
theorem d_RR_as_37 : decode prog_1_method_15_code 37 = .ok (.aload_n 3, 1) := by decide +kernel
theorem d_RR_as_38 : decode prog_1_method_15_code 38 = .ok (.iload_n 2, 1) := by decide +kernel
theorem d_RR_as_39 : decode prog_1_method_15_code 39 = .ok (.invokestatic 150, 3) := by decide +kernel
theorem d_RR_as_42 : decode prog_1_method_15_code 42 = .ok (.ifCond .eq 14, 3) := by decide +kernel
theorem d_RR_as_45 : decode prog_1_method_15_code 45 = .ok (.aload_n 0, 1) := by decide +kernel
theorem d_RR_as_46 : decode prog_1_method_15_code 46 = .ok (.aload_n 3, 1) := by decide +kernel
theorem d_RR_as_47 : decode prog_1_method_15_code 47 = .ok (.getfield 154, 3) := by decide +kernel
theorem d_RR_as_50 : decode prog_1_method_15_code 50 = .ok (.invokevirtual 58, 3) := by decide +kernel
theorem d_RR_as_53 : decode prog_1_method_15_code 53 = .ok (.goto 8, 3) := by decide +kernel
theorem d_RR_as_56 : decode prog_1_method_15_code 56 = .ok (.aload_n 0, 1) := by decide +kernel
theorem d_RR_as_57 : decode prog_1_method_15_code 57 = .ok (.iconst 3, 1) := by decide +kernel
theorem d_RR_as_58 : decode prog_1_method_15_code 58 = .ok (.invokevirtual 51, 3) := by decide +kernel
theorem d_RR_as_61 : decode prog_1_method_15_code 61 = .ok (.ireturn, 1) := by decide +kernel
theorem d_RR_ask_0 : decode prog_1_method_16_code 0 = .ok (.iload_n 1, 1) := by decide +kernel
theorem d_RR_ask_1 : decode prog_1_method_16_code 1 = .ok (.invokestatic 80, 3) := by decide +kernel
theorem d_RR_ask_4 : decode prog_1_method_16_code 4 = .ok (.ifCond .eq 12, 3) := by decide +kernel
theorem d_RR_ask_7 : decode prog_1_method_16_code 7 = .ok (.iload_n 2, 1) := by decide +kernel
theorem d_RR_ask_8 : decode prog_1_method_16_code 8 = .ok (.ifCond .lt 8, 3) := by decide +kernel
theorem d_RR_ask_11 : decode prog_1_method_16_code 11 = .ok (.iload_n 2, 1) := by decide +kernel
theorem d_RR_ask_12 : decode prog_1_method_16_code 12 = .ok (.iconst 3, 1) := by decide +kernel
theorem d_RR_ask_13 : decode prog_1_method_16_code 13 = .ok (.if_icmp .lt 6, 3) := by decide +kernel
theorem d_RR_ask_16 : decode prog_1_method_16_code 16 = .ok (.ldc 50, 2) := by decide +kernel
theorem d_RR_ask_18 : decode prog_1_method_16_code 18 = .ok (.ireturn, 1) := by decide +kernel
theorem d_RR_ask_19 : decode prog_1_method_16_code 19 = .ok (.aload_n 0, 1) := by decide +kernel
theorem d_RR_ask_20 : decode prog_1_method_16_code 20 = .ok (.getfield 24, 3) := by decide +kernel
theorem d_RR_ask_23 : decode prog_1_method_16_code 23 = .ok (.iconst 0, 1) := by decide +kernel
theorem d_RR_ask_24 : decode prog_1_method_16_code 24 = .ok (.putfield 155, 3) := by decide +kernel
theorem d_RR_ask_27 : decode prog_1_method_16_code 27 = .ok (.aload_n 0, 1) := by decide +kernel
theorem d_RR_ask_28 : decode prog_1_method_16_code 28 = .ok (.getfield 17, 3) := by decide +kernel
theorem d_RR_ask_31 : decode prog_1_method_16_code 31 = .ok (.iload_n 1, 1) := by decide +kernel
theorem d_RR_ask_32 : decode prog_1_method_16_code 32 = .ok (.aaload, 1) := by decide +kernel
theorem d_RR_ask_33 : decode prog_1_method_16_code 33 = .ok (.astore_n 3, 1) := by decide +kernel
theorem d_RR_ask_34 : decode prog_1_method_16_code 34 = .ok (.aload_n 3, 1) := by decide +kernel
theorem d_RR_ask_35 : decode prog_1_method_16_code 35 = .ok (.ifnonnull 9, 3) := by decide +kernel
theorem d_RR_ask_38 : decode prog_1_method_16_code 38 = .ok (.aload_n 0, 1) := by decide +kernel
theorem d_RR_ask_39 : decode prog_1_method_16_code 39 = .ok (.iconst 1, 1) := by decide +kernel
theorem d_RR_ask_40 : decode prog_1_method_16_code 40 = .ok (.invokevirtual 51, 3) := by decide +kernel
theorem d_RR_ask_43 : decode prog_1_method_16_code 43 = .ok (.ireturn, 1) := by decide +kernel
theorem d_RR_ask_44 : decode prog_1_method_16_code 44 = .ok (.iload_n 2, 1) := by decide +kernel
theorem d_RR_ask_45 : decode prog_1_method_16_code 45 = .ok (.lookupswitch 53 #[(0, 27), (1, 40)], 27) := by decide +kernel
theorem d_RR_ask_72 : decode prog_1_method_16_code 72 = .ok (.aload_n 0, 1) := by decide +kernel
theorem d_RR_ask_73 : decode prog_1_method_16_code 73 = .ok (.aload_n 3, 1) := by decide +kernel
theorem d_RR_ask_74 : decode prog_1_method_16_code 74 = .ok (.aload_n 0, 1) := by decide +kernel
theorem d_RR_ask_75 : decode prog_1_method_16_code 75 = .ok (.getfield 24, 3) := by decide +kernel
theorem d_RR_ask_78 : decode prog_1_method_16_code 78 = .ok (.invokevirtual 158, 3) := by decide +kernel
theorem d_RR_ask_81 : decode prog_1_method_16_code 81 = .ok (.invokevirtual 58, 3) := by decide +kernel
theorem d_RR_ask_84 : decode prog_1_method_16_code 84 = .ok (.ireturn, 1) := by decide +kernel
theorem d_RR_ask_85 : decode prog_1_method_16_code 85 = .ok (.aload_n 0, 1) := by decide +kernel
theorem d_RR_ask_86 : decode prog_1_method_16_code 86 = .ok (.aload_n 3, 1) := by decide +kernel
theorem d_RR_ask_87 : decode prog_1_method_16_code 87 = .ok (.aload_n 0, 1) := by decide +kernel
theorem d_RR_ask_88 : decode prog_1_method_16_code 88 = .ok (.getfield 24, 3) := by decide +kernel
theorem d_RR_ask_91 : decode prog_1_method_16_code 91 = .ok (.invokevirtual 162, 3) := by decide +kernel
theorem d_RR_ask_94 : decode prog_1_method_16_code 94 = .ok (.invokevirtual 58, 3) := by decide +kernel
theorem d_RR_ask_97 : decode prog_1_method_16_code 97 = .ok (.ireturn, 1) := by decide +kernel
theorem d_RR_ask_98 : decode prog_1_method_16_code 98 = .ok (.aload_n 0, 1) := by decide +kernel
theorem d_RR_ask_99 : decode prog_1_method_16_code 99 = .ok (.aload_n 3, 1) := by decide +kernel
theorem d_RR_ask_100 : decode prog_1_method_16_code 100 = .ok (.aload_n 0, 1) := by decide +kernel
theorem d_RR_ask_101 : decode prog_1_method_16_code 101 = .ok (.getfield 24, 3) := by decide +kernel
theorem d_RR_ask_104 : decode prog_1_method_16_code 104 = .ok (.invokevirtual 165, 3) := by decide +kernel
theorem d_RR_ask_107 : decode prog_1_method_16_code 107 = .ok (.invokevirtual 58, 3) := by decide +kernel
theorem d_RR_ask_110 : decode prog_1_method_16_code 110 = .ok (.ireturn, 1) := by decide +kernel
theorem d_La_askSize_0 : decode prog_4_method_4_code 0 = .ok (.aload_n 1, 1) := by decide +kernel
theorem d_La_askSize_1 : decode prog_4_method_4_code 1 = .ok (.bipush 11, 2) := by decide +kernel
theorem d_La_askSize_3 : decode prog_4_method_4_code 3 = .ok (.invokevirtual 32, 3) := by decide +kernel
theorem d_La_askSize_6 : decode prog_4_method_4_code 6 = .ok (.iconst 2, 1) := by decide +kernel
theorem d_La_askSize_7 : decode prog_4_method_4_code 7 = .ok (.aload_n 0, 1) := by decide +kernel
theorem d_La_askSize_8 : decode prog_4_method_4_code 8 = .ok (.aload_n 1, 1) := by decide +kernel
theorem d_La_askSize_9 : decode prog_4_method_4_code 9 = .ok (.invokespecial 37, 3) := by decide +kernel
theorem d_La_askSize_12 : decode prog_4_method_4_code 12 = .ok (.imul, 1) := by decide +kernel
theorem d_La_askSize_13 : decode prog_4_method_4_code 13 = .ok (.ireturn, 1) := by decide +kernel
theorem d_Tr_leave_0 : decode prog_12_method_2_code 0 = .ok (.aload_n 0, 1) := by decide +kernel
theorem d_Tr_leave_1 : decode prog_12_method_2_code 1 = .ok (.getfield 13, 3) := by decide +kernel
theorem d_Tr_leave_4 : decode prog_12_method_2_code 4 = .ok (.aload_n 0, 1) := by decide +kernel
theorem d_Tr_leave_5 : decode prog_12_method_2_code 5 = .ok (.getfield 7, 3) := by decide +kernel
theorem d_Tr_leave_8 : decode prog_12_method_2_code 8 = .ok (.arraylength, 1) := by decide +kernel
theorem d_Tr_leave_9 : decode prog_12_method_2_code 9 = .ok (.if_icmp .ge 23, 3) := by decide +kernel
theorem d_Tr_leave_12 : decode prog_12_method_2_code 12 = .ok (.aload_n 0, 1) := by decide +kernel
theorem d_Tr_leave_13 : decode prog_12_method_2_code 13 = .ok (.getfield 7, 3) := by decide +kernel
theorem d_Tr_leave_16 : decode prog_12_method_2_code 16 = .ok (.aload_n 0, 1) := by decide +kernel
theorem d_Tr_leave_17 : decode prog_12_method_2_code 17 = .ok (.getfield 13, 3) := by decide +kernel
theorem d_Tr_leave_20 : decode prog_12_method_2_code 20 = .ok (.iload_n 1, 1) := by decide +kernel
theorem d_Tr_leave_21 : decode prog_12_method_2_code 21 = .ok (.iastore, 1) := by decide +kernel
theorem d_Tr_leave_22 : decode prog_12_method_2_code 22 = .ok (.aload_n 0, 1) := by decide +kernel
theorem d_Tr_leave_23 : decode prog_12_method_2_code 23 = .ok (.dup, 1) := by decide +kernel
theorem d_Tr_leave_24 : decode prog_12_method_2_code 24 = .ok (.getfield 13, 3) := by decide +kernel
theorem d_Tr_leave_27 : decode prog_12_method_2_code 27 = .ok (.iconst 1, 1) := by decide +kernel
theorem d_Tr_leave_28 : decode prog_12_method_2_code 28 = .ok (.iadd, 1) := by decide +kernel
theorem d_Tr_leave_29 : decode prog_12_method_2_code 29 = .ok (.putfield 13, 3) := by decide +kernel
theorem d_Tr_leave_32 : decode prog_12_method_2_code 32 = .ok (.return_, 1) := by decide +kernel
theorem d_Th_askSize_0 : decode prog_11_method_3_code 0 = .ok (.aload_n 1, 1) := by decide +kernel
theorem d_Th_askSize_1 : decode prog_11_method_3_code 1 = .ok (.bipush 10, 2) := by decide +kernel
theorem d_Th_askSize_3 : decode prog_11_method_3_code 3 = .ok (.invokevirtual 13, 3) := by decide +kernel
theorem d_Th_askSize_6 : decode prog_11_method_3_code 6 = .ok (.aload_n 0, 1) := by decide +kernel
theorem d_Th_askSize_7 : decode prog_11_method_3_code 7 = .ok (.getfield 7, 3) := by decide +kernel
theorem d_Th_askSize_10 : decode prog_11_method_3_code 10 = .ok (.ireturn, 1) := by decide +kernel
theorem d_Ar_askWorth_0 : decode prog_2_method_3_code 0 = .ok (.aload_n 1, 1) := by decide +kernel
theorem d_Ar_askWorth_1 : decode prog_2_method_3_code 1 = .ok (.bipush 21, 2) := by decide +kernel
theorem d_Ar_askWorth_3 : decode prog_2_method_3_code 3 = .ok (.invokevirtual 13, 3) := by decide +kernel
theorem d_Ar_askWorth_6 : decode prog_2_method_3_code 6 = .ok (.iconst 0, 1) := by decide +kernel
theorem d_Ar_askWorth_7 : decode prog_2_method_3_code 7 = .ok (.istore_n 2, 1) := by decide +kernel
theorem d_Ar_askWorth_8 : decode prog_2_method_3_code 8 = .ok (.iconst 0, 1) := by decide +kernel
theorem d_Ar_askWorth_9 : decode prog_2_method_3_code 9 = .ok (.istore_n 3, 1) := by decide +kernel
theorem d_Ar_askWorth_10 : decode prog_2_method_3_code 10 = .ok (.iload_n 3, 1) := by decide +kernel
theorem d_Ar_askWorth_11 : decode prog_2_method_3_code 11 = .ok (.aload_n 0, 1) := by decide +kernel
theorem d_Ar_askWorth_12 : decode prog_2_method_3_code 12 = .ok (.getfield 7, 3) := by decide +kernel
theorem d_Ar_askWorth_15 : decode prog_2_method_3_code 15 = .ok (.arraylength, 1) := by decide +kernel
theorem d_Ar_askWorth_16 : decode prog_2_method_3_code 16 = .ok (.if_icmp .ge 29, 3) := by decide +kernel
theorem d_Ar_askWorth_19 : decode prog_2_method_3_code 19 = .ok (.iload_n 2, 1) := by decide +kernel
theorem d_Ar_askWorth_20 : decode prog_2_method_3_code 20 = .ok (.aload_n 0, 1) := by decide +kernel
theorem d_Ar_askWorth_21 : decode prog_2_method_3_code 21 = .ok (.getfield 7, 3) := by decide +kernel
theorem d_Ar_askWorth_24 : decode prog_2_method_3_code 24 = .ok (.iload_n 3, 1) := by decide +kernel
theorem d_Ar_askWorth_25 : decode prog_2_method_3_code 25 = .ok (.iaload, 1) := by decide +kernel
theorem d_Ar_askWorth_26 : decode prog_2_method_3_code 26 = .ok (.iload_n 3, 1) := by decide +kernel
theorem d_Ar_askWorth_27 : decode prog_2_method_3_code 27 = .ok (.iconst 1, 1) := by decide +kernel
theorem d_Ar_askWorth_28 : decode prog_2_method_3_code 28 = .ok (.iadd, 1) := by decide +kernel
theorem d_Ar_askWorth_29 : decode prog_2_method_3_code 29 = .ok (.if_icmp .ne 7, 3) := by decide +kernel
theorem d_Ar_askWorth_32 : decode prog_2_method_3_code 32 = .ok (.iconst 1, 1) := by decide +kernel
theorem d_Ar_askWorth_33 : decode prog_2_method_3_code 33 = .ok (.goto 4, 3) := by decide +kernel
theorem d_Ar_askWorth_36 : decode prog_2_method_3_code 36 = .ok (.iconst 0, 1) := by decide +kernel
theorem d_Ar_askWorth_37 : decode prog_2_method_3_code 37 = .ok (.iadd, 1) := by decide +kernel
theorem d_Ar_askWorth_38 : decode prog_2_method_3_code 38 = .ok (.istore_n 2, 1) := by decide +kernel
theorem d_Ar_askWorth_39 : decode prog_2_method_3_code 39 = .ok (.iinc 3 1, 3) := by decide +kernel
theorem d_Ar_askWorth_42 : decode prog_2_method_3_code 42 = .ok (.goto (-32), 3) := by decide +kernel
theorem d_Ar_askWorth_45 : decode prog_2_method_3_code 45 = .ok (.iload_n 2, 1) := by decide +kernel
theorem d_Ar_askWorth_46 : decode prog_2_method_3_code 46 = .ok (.ireturn, 1) := by decide +kernel
theorem d_Fo_askWorth_0 : decode prog_3_method_3_code 0 = .ok (.aload_n 1, 1) := by decide +kernel
theorem d_Fo_askWorth_1 : decode prog_3_method_3_code 1 = .ok (.bipush 26, 2) := by decide +kernel
theorem d_Fo_askWorth_3 : decode prog_3_method_3_code 3 = .ok (.invokevirtual 10, 3) := by decide +kernel
theorem d_Fo_askWorth_6 : decode prog_3_method_3_code 6 = .ok (.aload_n 0, 1) := by decide +kernel
theorem d_Fo_askWorth_7 : decode prog_3_method_3_code 7 = .ok (.aload_n 1, 1) := by decide +kernel
theorem d_Fo_askWorth_8 : decode prog_3_method_3_code 8 = .ok (.invokespecial 16, 3) := by decide +kernel
theorem d_Fo_askWorth_11 : decode prog_3_method_3_code 11 = .ok (.bipush 100, 2) := by decide +kernel
theorem d_Fo_askWorth_13 : decode prog_3_method_3_code 13 = .ok (.iadd, 1) := by decide +kernel
theorem d_Fo_askWorth_14 : decode prog_3_method_3_code 14 = .ok (.ireturn, 1) := by decide +kernel
theorem d_St_askWorth_0 : decode prog_10_method_3_code 0 = .ok (.aload_n 1, 1) := by decide +kernel
theorem d_St_askWorth_1 : decode prog_10_method_3_code 1 = .ok (.bipush 25, 2) := by decide +kernel
theorem d_St_askWorth_3 : decode prog_10_method_3_code 3 = .ok (.invokevirtual 23, 3) := by decide +kernel
theorem d_St_askWorth_6 : decode prog_10_method_3_code 6 = .ok (.aload_n 0, 1) := by decide +kernel
theorem d_St_askWorth_7 : decode prog_10_method_3_code 7 = .ok (.getfield 13, 3) := by decide +kernel
theorem d_St_askWorth_10 : decode prog_10_method_3_code 10 = .ok (.iconst 0, 1) := by decide +kernel
theorem d_St_askWorth_11 : decode prog_10_method_3_code 11 = .ok (.iaload, 1) := by decide +kernel
theorem d_St_askWorth_12 : decode prog_10_method_3_code 12 = .ok (.ireturn, 1) := by decide +kernel
theorem d_La_askWorth_0 : decode prog_4_method_5_code 0 = .ok (.aload_n 1, 1) := by decide +kernel
theorem d_La_askWorth_1 : decode prog_4_method_5_code 1 = .ok (.bipush 23, 2) := by decide +kernel
theorem d_La_askWorth_3 : decode prog_4_method_5_code 3 = .ok (.invokevirtual 32, 3) := by decide +kernel
theorem d_La_askWorth_6 : decode prog_4_method_5_code 6 = .ok (.aload_n 0, 1) := by decide +kernel
theorem d_La_askWorth_7 : decode prog_4_method_5_code 7 = .ok (.getfield 26, 3) := by decide +kernel
theorem d_La_askWorth_10 : decode prog_4_method_5_code 10 = .ok (.ireturn, 1) := by decide +kernel
theorem d_Lo_askWorth_0 : decode prog_5_method_3_code 0 = .ok (.aload_n 1, 1) := by decide +kernel
theorem d_Lo_askWorth_1 : decode prog_5_method_3_code 1 = .ok (.bipush 24, 2) := by decide +kernel
theorem d_Lo_askWorth_3 : decode prog_5_method_3_code 3 = .ok (.invokevirtual 7, 3) := by decide +kernel
theorem d_Lo_askWorth_6 : decode prog_5_method_3_code 6 = .ok (.aload_n 0, 1) := by decide +kernel
theorem d_Lo_askWorth_7 : decode prog_5_method_3_code 7 = .ok (.aload_n 1, 1) := by decide +kernel
theorem d_Lo_askWorth_8 : decode prog_5_method_3_code 8 = .ok (.invokespecial 13, 3) := by decide +kernel
theorem d_Lo_askWorth_11 : decode prog_5_method_3_code 11 = .ok (.aload_n 0, 1) := by decide +kernel
theorem d_Lo_askWorth_12 : decode prog_5_method_3_code 12 = .ok (.aload_n 1, 1) := by decide +kernel
theorem d_Lo_askWorth_13 : decode prog_5_method_3_code 13 = .ok (.invokevirtual 17, 3) := by decide +kernel
theorem d_Lo_askWorth_16 : decode prog_5_method_3_code 16 = .ok (.imul, 1) := by decide +kernel
theorem d_Lo_askWorth_17 : decode prog_5_method_3_code 17 = .ok (.ireturn, 1) := by decide +kernel
theorem d_Ne_askWorth_0 : decode prog_6_method_3_code 0 = .ok (.aload_n 1, 1) := by decide +kernel
theorem d_Ne_askWorth_1 : decode prog_6_method_3_code 1 = .ok (.bipush 22, 2) := by decide +kernel
theorem d_Ne_askWorth_3 : decode prog_6_method_3_code 3 = .ok (.invokevirtual 7, 3) := by decide +kernel
theorem d_Ne_askWorth_6 : decode prog_6_method_3_code 6 = .ok (.aload_n 0, 1) := by decide +kernel
theorem d_Ne_askWorth_7 : decode prog_6_method_3_code 7 = .ok (.aload_n 1, 1) := by decide +kernel
theorem d_Ne_askWorth_8 : decode prog_6_method_3_code 8 = .ok (.invokespecial 13, 3) := by decide +kernel
theorem d_Ne_askWorth_11 : decode prog_6_method_3_code 11 = .ok (.aload_n 0, 1) := by decide +kernel
theorem d_Ne_askWorth_12 : decode prog_6_method_3_code 12 = .ok (.aload_n 1, 1) := by decide +kernel
theorem d_Ne_askWorth_13 : decode prog_6_method_3_code 13 = .ok (.invokevirtual 17, 3) := by decide +kernel
theorem d_Ne_askWorth_16 : decode prog_6_method_3_code 16 = .ok (.iadd, 1) := by decide +kernel
theorem d_Ne_askWorth_17 : decode prog_6_method_3_code 17 = .ok (.ireturn, 1) := by decide +kernel
theorem d_Row_askWorth_0 : decode prog_8_method_3_code 0 = .ok (.aload_n 1, 1) := by decide +kernel
theorem d_Row_askWorth_1 : decode prog_8_method_3_code 1 = .ok (.bipush 20, 2) := by decide +kernel
theorem d_Row_askWorth_3 : decode prog_8_method_3_code 3 = .ok (.invokevirtual 13, 3) := by decide +kernel
theorem d_Row_askWorth_6 : decode prog_8_method_3_code 6 = .ok (.aload_n 0, 1) := by decide +kernel
theorem d_Row_askWorth_7 : decode prog_8_method_3_code 7 = .ok (.getfield 7, 3) := by decide +kernel
theorem d_Row_askWorth_10 : decode prog_8_method_3_code 10 = .ok (.invokestatic 18, 3) := by decide +kernel
theorem d_Row_askWorth_13 : decode prog_8_method_3_code 13 = .ok (.ireturn, 1) := by decide +kernel
theorem d_JL_bitCount_0 : decode prog_16_method_50_code 0 = .ok (.lload_n 0, 1) := by decide +kernel
theorem d_JL_bitCount_1 : decode prog_16_method_50_code 1 = .ok (.lload_n 0, 1) := by decide +kernel
theorem d_JL_bitCount_2 : decode prog_16_method_50_code 2 = .ok (.iconst 1, 1) := by decide +kernel
theorem d_JL_bitCount_3 : decode prog_16_method_50_code 3 = .ok (.lushr, 1) := by decide +kernel
theorem d_JL_bitCount_4 : decode prog_16_method_50_code 4 = .ok (.ldc2_w 314, 3) := by decide +kernel
theorem d_JL_bitCount_7 : decode prog_16_method_50_code 7 = .ok (.land, 1) := by decide +kernel
theorem d_JL_bitCount_8 : decode prog_16_method_50_code 8 = .ok (.lsub, 1) := by decide +kernel
theorem d_JL_bitCount_9 : decode prog_16_method_50_code 9 = .ok (.lstore_n 0, 1) := by decide +kernel
theorem d_JL_bitCount_10 : decode prog_16_method_50_code 10 = .ok (.lload_n 0, 1) := by decide +kernel
theorem d_JL_bitCount_11 : decode prog_16_method_50_code 11 = .ok (.ldc2_w 316, 3) := by decide +kernel
theorem d_JL_bitCount_14 : decode prog_16_method_50_code 14 = .ok (.land, 1) := by decide +kernel
theorem d_JL_bitCount_15 : decode prog_16_method_50_code 15 = .ok (.lload_n 0, 1) := by decide +kernel
theorem d_JL_bitCount_16 : decode prog_16_method_50_code 16 = .ok (.iconst 2, 1) := by decide +kernel
theorem d_JL_bitCount_17 : decode prog_16_method_50_code 17 = .ok (.lushr, 1) := by decide +kernel
theorem d_JL_bitCount_18 : decode prog_16_method_50_code 18 = .ok (.ldc2_w 316, 3) := by decide +kernel
theorem d_JL_bitCount_21 : decode prog_16_method_50_code 21 = .ok (.land, 1) := by decide +kernel
theorem d_JL_bitCount_22 : decode prog_16_method_50_code 22 = .ok (.ladd, 1) := by decide +kernel
theorem d_JL_bitCount_23 : decode prog_16_method_50_code 23 = .ok (.lstore_n 0, 1) := by decide +kernel
theorem d_JL_bitCount_24 : decode prog_16_method_50_code 24 = .ok (.lload_n 0, 1) := by decide +kernel
theorem d_JL_bitCount_25 : decode prog_16_method_50_code 25 = .ok (.lload_n 0, 1) := by decide +kernel
theorem d_JL_bitCount_26 : decode prog_16_method_50_code 26 = .ok (.iconst 4, 1) := by decide +kernel
theorem d_JL_bitCount_27 : decode prog_16_method_50_code 27 = .ok (.lushr, 1) := by decide +kernel
theorem d_JL_bitCount_28 : decode prog_16_method_50_code 28 = .ok (.ladd, 1) := by decide +kernel
theorem d_JL_bitCount_29 : decode prog_16_method_50_code 29 = .ok (.ldc2_w 318, 3) := by decide +kernel
theorem d_JL_bitCount_32 : decode prog_16_method_50_code 32 = .ok (.land, 1) := by decide +kernel
theorem d_JL_bitCount_33 : decode prog_16_method_50_code 33 = .ok (.lstore_n 0, 1) := by decide +kernel
theorem d_JL_bitCount_34 : decode prog_16_method_50_code 34 = .ok (.lload_n 0, 1) := by decide +kernel
theorem d_JL_bitCount_35 : decode prog_16_method_50_code 35 = .ok (.lload_n 0, 1) := by decide +kernel
theorem d_JL_bitCount_36 : decode prog_16_method_50_code 36 = .ok (.bipush 8, 2) := by decide +kernel
theorem d_JL_bitCount_38 : decode prog_16_method_50_code 38 = .ok (.lushr, 1) := by decide +kernel
theorem d_JL_bitCount_39 : decode prog_16_method_50_code 39 = .ok (.ladd, 1) := by decide +kernel
theorem d_JL_bitCount_40 : decode prog_16_method_50_code 40 = .ok (.lstore_n 0, 1) := by decide +kernel
theorem d_JL_bitCount_41 : decode prog_16_method_50_code 41 = .ok (.lload_n 0, 1) := by decide +kernel
theorem d_JL_bitCount_42 : decode prog_16_method_50_code 42 = .ok (.lload_n 0, 1) := by decide +kernel
theorem d_JL_bitCount_43 : decode prog_16_method_50_code 43 = .ok (.bipush 16, 2) := by decide +kernel
theorem d_JL_bitCount_45 : decode prog_16_method_50_code 45 = .ok (.lushr, 1) := by decide +kernel
theorem d_JL_bitCount_46 : decode prog_16_method_50_code 46 = .ok (.ladd, 1) := by decide +kernel
theorem d_JL_bitCount_47 : decode prog_16_method_50_code 47 = .ok (.lstore_n 0, 1) := by decide +kernel
theorem d_JL_bitCount_48 : decode prog_16_method_50_code 48 = .ok (.lload_n 0, 1) := by decide +kernel
theorem d_JL_bitCount_49 : decode prog_16_method_50_code 49 = .ok (.lload_n 0, 1) := by decide +kernel
theorem d_JL_bitCount_50 : decode prog_16_method_50_code 50 = .ok (.bipush 32, 2) := by decide +kernel
theorem d_JL_bitCount_52 : decode prog_16_method_50_code 52 = .ok (.lushr, 1) := by decide +kernel
theorem d_JL_bitCount_53 : decode prog_16_method_50_code 53 = .ok (.ladd, 1) := by decide +kernel
theorem d_JL_bitCount_54 : decode prog_16_method_50_code 54 = .ok (.lstore_n 0, 1) := by decide +kernel
theorem d_JL_bitCount_55 : decode prog_16_method_50_code 55 = .ok (.lload_n 0, 1) := by decide +kernel
theorem d_JL_bitCount_56 : decode prog_16_method_50_code 56 = .ok (.l2i, 1) := by decide +kernel
theorem d_JL_bitCount_57 : decode prog_16_method_50_code 57 = .ok (.bipush 127, 2) := by decide +kernel
theorem d_JL_bitCount_59 : decode prog_16_method_50_code 59 = .ok (.iand, 1) := by decide +kernel
theorem d_JL_bitCount_60 : decode prog_16_method_50_code 60 = .ok (.ireturn, 1) := by decide +kernel
theorem d_Ar_askMark_0 : decode prog_2_method_4_code 0 = .ok (.aload_n 1, 1) := by decide +kernel
theorem d_Ar_askMark_1 : decode prog_2_method_4_code 1 = .ok (.bipush 31, 2) := by decide +kernel
theorem d_Ar_askMark_3 : decode prog_2_method_4_code 3 = .ok (.invokevirtual 13, 3) := by decide +kernel
theorem d_Ar_askMark_6 : decode prog_2_method_4_code 6 = .ok (.iconst 2, 1) := by decide +kernel
theorem d_Ar_askMark_7 : decode prog_2_method_4_code 7 = .ok (.aload_n 0, 1) := by decide +kernel
theorem d_Ar_askMark_8 : decode prog_2_method_4_code 8 = .ok (.aload_n 1, 1) := by decide +kernel
theorem d_Ar_askMark_9 : decode prog_2_method_4_code 9 = .ok (.invokespecial 19, 3) := by decide +kernel
theorem d_Ar_askMark_12 : decode prog_2_method_4_code 12 = .ok (.imul, 1) := by decide +kernel
theorem d_Ar_askMark_13 : decode prog_2_method_4_code 13 = .ok (.ireturn, 1) := by decide +kernel
theorem d_Fo_askMark_0 : decode prog_3_method_4_code 0 = .ok (.aload_n 1, 1) := by decide +kernel
theorem d_Fo_askMark_1 : decode prog_3_method_4_code 1 = .ok (.bipush 33, 2) := by decide +kernel
theorem d_Fo_askMark_3 : decode prog_3_method_4_code 3 = .ok (.invokevirtual 10, 3) := by decide +kernel
theorem d_Fo_askMark_6 : decode prog_3_method_4_code 6 = .ok (.aload_n 0, 1) := by decide +kernel
theorem d_Fo_askMark_7 : decode prog_3_method_4_code 7 = .ok (.aload_n 1, 1) := by decide +kernel
theorem d_Fo_askMark_8 : decode prog_3_method_4_code 8 = .ok (.invokespecial 20, 3) := by decide +kernel
theorem d_Fo_askMark_11 : decode prog_3_method_4_code 11 = .ok (.iconst 1, 1) := by decide +kernel
theorem d_Fo_askMark_12 : decode prog_3_method_4_code 12 = .ok (.isub, 1) := by decide +kernel
theorem d_Fo_askMark_13 : decode prog_3_method_4_code 13 = .ok (.ireturn, 1) := by decide +kernel
theorem d_Pe_askMark_0 : decode prog_7_method_3_code 0 = .ok (.aload_n 1, 1) := by decide +kernel
theorem d_Pe_askMark_1 : decode prog_7_method_3_code 1 = .ok (.bipush 32, 2) := by decide +kernel
theorem d_Pe_askMark_3 : decode prog_7_method_3_code 3 = .ok (.invokevirtual 7, 3) := by decide +kernel
theorem d_Pe_askMark_6 : decode prog_7_method_3_code 6 = .ok (.aload_n 0, 1) := by decide +kernel
theorem d_Pe_askMark_7 : decode prog_7_method_3_code 7 = .ok (.aload_n 1, 1) := by decide +kernel
theorem d_Pe_askMark_8 : decode prog_7_method_3_code 8 = .ok (.invokespecial 13, 3) := by decide +kernel
theorem d_Pe_askMark_11 : decode prog_7_method_3_code 11 = .ok (.aload_n 0, 1) := by decide +kernel
theorem d_Pe_askMark_12 : decode prog_7_method_3_code 12 = .ok (.aload_n 1, 1) := by decide +kernel
theorem d_Pe_askMark_13 : decode prog_7_method_3_code 13 = .ok (.invokevirtual 17, 3) := by decide +kernel
theorem d_Pe_askMark_16 : decode prog_7_method_3_code 16 = .ok (.iadd, 1) := by decide +kernel
theorem d_Pe_askMark_17 : decode prog_7_method_3_code 17 = .ok (.ireturn, 1) := by decide +kernel
theorem d_Th_askMark_0 : decode prog_11_method_5_code 0 = .ok (.aload_n 1, 1) := by decide +kernel
theorem d_Th_askMark_1 : decode prog_11_method_5_code 1 = .ok (.bipush 30, 2) := by decide +kernel
theorem d_Th_askMark_3 : decode prog_11_method_5_code 3 = .ok (.invokevirtual 13, 3) := by decide +kernel
theorem d_Th_askMark_6 : decode prog_11_method_5_code 6 = .ok (.aload_n 0, 1) := by decide +kernel
theorem d_Th_askMark_7 : decode prog_11_method_5_code 7 = .ok (.aload_n 1, 1) := by decide +kernel
theorem d_Th_askMark_8 : decode prog_11_method_5_code 8 = .ok (.invokevirtual 19, 3) := by decide +kernel
theorem d_Th_askMark_11 : decode prog_11_method_5_code 11 = .ok (.iconst 3, 1) := by decide +kernel
theorem d_Th_askMark_12 : decode prog_11_method_5_code 12 = .ok (.iadd, 1) := by decide +kernel
theorem d_Th_askMark_13 : decode prog_11_method_5_code 13 = .ok (.ireturn, 1) := by decide +kernel
theorem d_RR_trace_0 : decode prog_1_method_17_code 0 = .ok (.iload_n 1, 1) := by decide +kernel
theorem d_RR_trace_1 : decode prog_1_method_17_code 1 = .ok (.ifCond .lt 14, 3) := by decide +kernel
theorem d_RR_trace_4 : decode prog_1_method_17_code 4 = .ok (.iload_n 1, 1) := by decide +kernel
theorem d_RR_trace_5 : decode prog_1_method_17_code 5 = .ok (.aload_n 0, 1) := by decide +kernel
theorem d_RR_trace_6 : decode prog_1_method_17_code 6 = .ok (.getfield 24, 3) := by decide +kernel
theorem d_RR_trace_9 : decode prog_1_method_17_code 9 = .ok (.getfield 155, 3) := by decide +kernel
theorem d_RR_trace_12 : decode prog_1_method_17_code 12 = .ok (.if_icmp .lt 8, 3) := by decide +kernel
theorem d_RR_trace_15 : decode prog_1_method_17_code 15 = .ok (.ldc 117, 2) := by decide +kernel
theorem d_RR_trace_17 : decode prog_1_method_17_code 17 = .ok (.goto 12, 3) := by decide +kernel
theorem d_RR_trace_20 : decode prog_1_method_17_code 20 = .ok (.aload_n 0, 1) := by decide +kernel
theorem d_RR_trace_21 : decode prog_1_method_17_code 21 = .ok (.getfield 24, 3) := by decide +kernel
theorem d_RR_trace_24 : decode prog_1_method_17_code 24 = .ok (.getfield 168, 3) := by decide +kernel
theorem d_RR_trace_27 : decode prog_1_method_17_code 27 = .ok (.iload_n 1, 1) := by decide +kernel
theorem d_RR_trace_28 : decode prog_1_method_17_code 28 = .ok (.iaload, 1) := by decide +kernel
theorem d_RR_trace_29 : decode prog_1_method_17_code 29 = .ok (.ireturn, 1) := by decide +kernel
theorem d_RR_sign_0 : decode prog_1_method_18_code 0 = .ok (.iload_n 1, 1) := by decide +kernel
theorem d_RR_sign_1 : decode prog_1_method_18_code 1 = .ok (.invokestatic 80, 3) := by decide +kernel
theorem d_RR_sign_4 : decode prog_1_method_18_code 4 = .ok (.ifCond .ne 6, 3) := by decide +kernel
theorem d_RR_sign_7 : decode prog_1_method_18_code 7 = .ok (.ldc 50, 2) := by decide +kernel
theorem d_RR_sign_9 : decode prog_1_method_18_code 9 = .ok (.ireturn, 1) := by decide +kernel
theorem d_RR_sign_10 : decode prog_1_method_18_code 10 = .ok (.aload_n 0, 1) := by decide +kernel
theorem d_RR_sign_11 : decode prog_1_method_18_code 11 = .ok (.getfield 17, 3) := by decide +kernel
theorem d_RR_sign_14 : decode prog_1_method_18_code 14 = .ok (.iload_n 1, 1) := by decide +kernel
theorem d_RR_sign_15 : decode prog_1_method_18_code 15 = .ok (.aaload, 1) := by decide +kernel
theorem d_RR_sign_16 : decode prog_1_method_18_code 16 = .ok (.astore 4, 2) := by decide +kernel
theorem d_RR_sign_18 : decode prog_1_method_18_code 18 = .ok (.aload 4, 2) := by decide +kernel
theorem d_RR_sign_20 : decode prog_1_method_18_code 20 = .ok (.instanceof 171, 3) := by decide +kernel
theorem d_RR_sign_23 : decode prog_1_method_18_code 23 = .ok (.ifCond .eq 12, 3) := by decide +kernel
theorem d_RR_sign_26 : decode prog_1_method_18_code 26 = .ok (.aload 4, 2) := by decide +kernel
theorem d_RR_sign_28 : decode prog_1_method_18_code 28 = .ok (.checkcast 171, 3) := by decide +kernel
theorem d_RR_sign_31 : decode prog_1_method_18_code 31 = .ok (.astore_n 3, 1) := by decide +kernel
theorem d_RR_sign_32 : decode prog_1_method_18_code 32 = .ok (.goto 9, 3) := by decide +kernel
theorem d_RR_sign_35 : decode prog_1_method_18_code 35 = .ok (.aload_n 0, 1) := by decide +kernel
theorem d_RR_sign_36 : decode prog_1_method_18_code 36 = .ok (.iload_n 1, 1) := by decide +kernel
theorem d_RR_sign_37 : decode prog_1_method_18_code 37 = .ok (.invokevirtual 93, 3) := by decide +kernel
theorem d_RR_sign_40 : decode prog_1_method_18_code 40 = .ok (.ireturn, 1) := by decide +kernel
theorem d_RR_sign_41 : decode prog_1_method_18_code 41 = .ok (.aload_n 3, 1) := by decide +kernel
theorem d_RR_sign_42 : decode prog_1_method_18_code 42 = .ok (.getfield 173, 3) := by decide +kernel
theorem d_RR_sign_45 : decode prog_1_method_18_code 45 = .ok (.iload_n 2, 1) := by decide +kernel
theorem d_RR_sign_46 : decode prog_1_method_18_code 46 = .ok (.invokestatic 174, 3) := by decide +kernel
theorem d_RR_sign_49 : decode prog_1_method_18_code 49 = .ok (.ifCond .ne 6, 3) := by decide +kernel
theorem d_RR_sign_52 : decode prog_1_method_18_code 52 = .ok (.ldc 50, 2) := by decide +kernel
theorem d_RR_sign_54 : decode prog_1_method_18_code 54 = .ok (.ireturn, 1) := by decide +kernel
theorem d_RR_sign_55 : decode prog_1_method_18_code 55 = .ok (.aload_n 0, 1) := by decide +kernel
theorem d_RR_sign_56 : decode prog_1_method_18_code 56 = .ok (.aload_n 3, 1) := by decide +kernel
theorem d_RR_sign_57 : decode prog_1_method_18_code 57 = .ok (.getfield 177, 3) := by decide +kernel
theorem d_RR_sign_60 : decode prog_1_method_18_code 60 = .ok (.iload_n 2, 1) := by decide +kernel
theorem d_RR_sign_61 : decode prog_1_method_18_code 61 = .ok (.invokestatic 178, 3) := by decide +kernel
theorem d_RR_sign_64 : decode prog_1_method_18_code 64 = .ok (.ifCond .eq 7, 3) := by decide +kernel
theorem d_RR_sign_67 : decode prog_1_method_18_code 67 = .ok (.iconst 1, 1) := by decide +kernel
theorem d_RR_sign_68 : decode prog_1_method_18_code 68 = .ok (.goto 4, 3) := by decide +kernel
theorem d_RR_sign_71 : decode prog_1_method_18_code 71 = .ok (.iconst (-1), 1) := by decide +kernel
theorem d_RR_sign_72 : decode prog_1_method_18_code 72 = .ok (.invokevirtual 58, 3) := by decide +kernel
theorem d_RR_sign_75 : decode prog_1_method_18_code 75 = .ok (.ireturn, 1) := by decide +kernel
theorem d_RR_isCrossing_0 : decode prog_1_method_38_code 0 = .ok (.iload_n 1, 1) := by decide +kernel
theorem d_RR_isCrossing_1 : decode prog_1_method_38_code 1 = .ok (.ifCond .lt 14, 3) := by decide +kernel
theorem d_RR_isCrossing_4 : decode prog_1_method_38_code 4 = .ok (.iload_n 1, 1) := by decide +kernel
theorem d_RR_isCrossing_5 : decode prog_1_method_38_code 5 = .ok (.iconst 2, 1) := by decide +kernel
theorem d_RR_isCrossing_6 : decode prog_1_method_38_code 6 = .ok (.iload_n 0, 1) := by decide +kernel
theorem d_RR_isCrossing_7 : decode prog_1_method_38_code 7 = .ok (.imul, 1) := by decide +kernel
theorem d_RR_isCrossing_8 : decode prog_1_method_38_code 8 = .ok (.if_icmp .ge 7, 3) := by decide +kernel
theorem d_RR_isCrossing_11 : decode prog_1_method_38_code 11 = .ok (.iconst 1, 1) := by decide +kernel
theorem d_RR_isCrossing_12 : decode prog_1_method_38_code 12 = .ok (.goto 4, 3) := by decide +kernel
theorem d_RR_isCrossing_15 : decode prog_1_method_38_code 15 = .ok (.iconst 0, 1) := by decide +kernel
theorem d_RR_isCrossing_16 : decode prog_1_method_38_code 16 = .ok (.ireturn, 1) := by decide +kernel
theorem d_RR_joined_0 : decode prog_1_method_19_code 0 = .ok (.iload_n 1, 1) := by decide +kernel
theorem d_RR_joined_1 : decode prog_1_method_19_code 1 = .ok (.invokestatic 80, 3) := by decide +kernel
theorem d_RR_joined_4 : decode prog_1_method_19_code 4 = .ok (.ifCond .ne 6, 3) := by decide +kernel
theorem d_RR_joined_7 : decode prog_1_method_19_code 7 = .ok (.ldc 50, 2) := by decide +kernel
theorem d_RR_joined_9 : decode prog_1_method_19_code 9 = .ok (.ireturn, 1) := by decide +kernel
theorem d_RR_joined_10 : decode prog_1_method_19_code 10 = .ok (.aload_n 0, 1) := by decide +kernel
theorem d_RR_joined_11 : decode prog_1_method_19_code 11 = .ok (.getfield 17, 3) := by decide +kernel
theorem d_RR_joined_14 : decode prog_1_method_19_code 14 = .ok (.iload_n 1, 1) := by decide +kernel
theorem d_RR_joined_15 : decode prog_1_method_19_code 15 = .ok (.aaload, 1) := by decide +kernel
theorem d_RR_joined_16 : decode prog_1_method_19_code 16 = .ok (.astore 4, 2) := by decide +kernel
theorem d_RR_joined_18 : decode prog_1_method_19_code 18 = .ok (.aload 4, 2) := by decide +kernel
theorem d_RR_joined_20 : decode prog_1_method_19_code 20 = .ok (.instanceof 91, 3) := by decide +kernel
theorem d_RR_joined_23 : decode prog_1_method_19_code 23 = .ok (.ifCond .eq 12, 3) := by decide +kernel
theorem d_RR_joined_26 : decode prog_1_method_19_code 26 = .ok (.aload 4, 2) := by decide +kernel
theorem d_RR_joined_28 : decode prog_1_method_19_code 28 = .ok (.checkcast 91, 3) := by decide +kernel
theorem d_RR_joined_31 : decode prog_1_method_19_code 31 = .ok (.astore_n 3, 1) := by decide +kernel
theorem d_RR_joined_32 : decode prog_1_method_19_code 32 = .ok (.goto 9, 3) := by decide +kernel
theorem d_RR_joined_35 : decode prog_1_method_19_code 35 = .ok (.aload_n 0, 1) := by decide +kernel
theorem d_RR_joined_36 : decode prog_1_method_19_code 36 = .ok (.iload_n 1, 1) := by decide +kernel
theorem d_RR_joined_37 : decode prog_1_method_19_code 37 = .ok (.invokevirtual 93, 3) := by decide +kernel
theorem d_RR_joined_40 : decode prog_1_method_19_code 40 = .ok (.ireturn, 1) := by decide +kernel
theorem d_RR_joined_41 : decode prog_1_method_19_code 41 = .ok (.aload_n 3, 1) := by decide +kernel
theorem d_RR_joined_42 : decode prog_1_method_19_code 42 = .ok (.getfield 96, 3) := by decide +kernel
theorem d_RR_joined_45 : decode prog_1_method_19_code 45 = .ok (.iload_n 2, 1) := by decide +kernel
theorem d_RR_joined_46 : decode prog_1_method_19_code 46 = .ok (.invokestatic 174, 3) := by decide +kernel
theorem d_RR_joined_49 : decode prog_1_method_19_code 49 = .ok (.ifCond .eq 16, 3) := by decide +kernel
theorem d_RR_joined_52 : decode prog_1_method_19_code 52 = .ok (.aload_n 0, 1) := by decide +kernel
theorem d_RR_joined_53 : decode prog_1_method_19_code 53 = .ok (.aload_n 3, 1) := by decide +kernel
theorem d_RR_joined_54 : decode prog_1_method_19_code 54 = .ok (.getfield 130, 3) := by decide +kernel
theorem d_RR_joined_57 : decode prog_1_method_19_code 57 = .ok (.iload_n 2, 1) := by decide +kernel
theorem d_RR_joined_58 : decode prog_1_method_19_code 58 = .ok (.iaload, 1) := by decide +kernel
theorem d_RR_joined_59 : decode prog_1_method_19_code 59 = .ok (.invokevirtual 58, 3) := by decide +kernel
theorem d_RR_joined_62 : decode prog_1_method_19_code 62 = .ok (.goto 5, 3) := by decide +kernel
theorem d_RR_joined_65 : decode prog_1_method_19_code 65 = .ok (.ldc 50, 2) := by decide +kernel
theorem d_RR_joined_67 : decode prog_1_method_19_code 67 = .ok (.ireturn, 1) := by decide +kernel
theorem d_RR_rank_0 : decode prog_1_method_20_code 0 = .ok (.iload_n 1, 1) := by decide +kernel
theorem d_RR_rank_1 : decode prog_1_method_20_code 1 = .ok (.invokestatic 80, 3) := by decide +kernel
theorem d_RR_rank_4 : decode prog_1_method_20_code 4 = .ok (.ifCond .ne 6, 3) := by decide +kernel
theorem d_RR_rank_7 : decode prog_1_method_20_code 7 = .ok (.ldc 50, 2) := by decide +kernel
theorem d_RR_rank_9 : decode prog_1_method_20_code 9 = .ok (.ireturn, 1) := by decide +kernel
theorem d_RR_rank_10 : decode prog_1_method_20_code 10 = .ok (.aload_n 0, 1) := by decide +kernel
theorem d_RR_rank_11 : decode prog_1_method_20_code 11 = .ok (.getfield 17, 3) := by decide +kernel
theorem d_RR_rank_14 : decode prog_1_method_20_code 14 = .ok (.iload_n 1, 1) := by decide +kernel
theorem d_RR_rank_15 : decode prog_1_method_20_code 15 = .ok (.aaload, 1) := by decide +kernel
theorem d_RR_rank_16 : decode prog_1_method_20_code 16 = .ok (.astore_n 3, 1) := by decide +kernel
theorem d_RR_rank_17 : decode prog_1_method_20_code 17 = .ok (.aload_n 3, 1) := by decide +kernel
theorem d_RR_rank_18 : decode prog_1_method_20_code 18 = .ok (.instanceof 91, 3) := by decide +kernel
theorem d_RR_rank_21 : decode prog_1_method_20_code 21 = .ok (.ifCond .eq 11, 3) := by decide +kernel
theorem d_RR_rank_24 : decode prog_1_method_20_code 24 = .ok (.aload_n 3, 1) := by decide +kernel
theorem d_RR_rank_25 : decode prog_1_method_20_code 25 = .ok (.checkcast 91, 3) := by decide +kernel
theorem d_RR_rank_28 : decode prog_1_method_20_code 28 = .ok (.astore_n 2, 1) := by decide +kernel
theorem d_RR_rank_29 : decode prog_1_method_20_code 29 = .ok (.goto 9, 3) := by decide +kernel
theorem d_RR_rank_32 : decode prog_1_method_20_code 32 = .ok (.aload_n 0, 1) := by decide +kernel
theorem d_RR_rank_33 : decode prog_1_method_20_code 33 = .ok (.iload_n 1, 1) := by decide +kernel
theorem d_RR_rank_34 : decode prog_1_method_20_code 34 = .ok (.invokevirtual 93, 3) := by decide +kernel
theorem d_RR_rank_37 : decode prog_1_method_20_code 37 = .ok (.ireturn, 1) := by decide +kernel
theorem d_RR_rank_38 : decode prog_1_method_20_code 38 = .ok (.aload_n 2, 1) := by decide +kernel
theorem d_RR_rank_39 : decode prog_1_method_20_code 39 = .ok (.getfield 96, 3) := by decide +kernel
theorem d_RR_rank_42 : decode prog_1_method_20_code 42 = .ok (.bipush 12, 2) := by decide +kernel
theorem d_RR_rank_44 : decode prog_1_method_20_code 44 = .ok (.if_icmp .le 8, 3) := by decide +kernel
theorem d_RR_rank_47 : decode prog_1_method_20_code 47 = .ok (.ldc 182, 2) := by decide +kernel
theorem d_RR_rank_49 : decode prog_1_method_20_code 49 = .ok (.goto 12, 3) := by decide +kernel
theorem d_RR_rank_52 : decode prog_1_method_20_code 52 = .ok (.aload_n 0, 1) := by decide +kernel
theorem d_RR_rank_53 : decode prog_1_method_20_code 53 = .ok (.aload_n 0, 1) := by decide +kernel
theorem d_RR_rank_54 : decode prog_1_method_20_code 54 = .ok (.aload_n 2, 1) := by decide +kernel
theorem d_RR_rank_55 : decode prog_1_method_20_code 55 = .ok (.invokevirtual 183, 3) := by decide +kernel
theorem d_RR_rank_58 : decode prog_1_method_20_code 58 = .ok (.invokevirtual 58, 3) := by decide +kernel
theorem d_RR_rank_61 : decode prog_1_method_20_code 61 = .ok (.ireturn, 1) := by decide +kernel
theorem d_RR_rankOf_0 : decode prog_1_method_51_code 0 = .ok (.iconst 0, 1) := by decide +kernel
theorem d_RR_rankOf_1 : decode prog_1_method_51_code 1 = .ok (.istore_n 2, 1) := by decide +kernel
theorem d_RR_rankOf_2 : decode prog_1_method_51_code 2 = .ok (.aload_n 1, 1) := by decide +kernel
theorem d_RR_rankOf_3 : decode prog_1_method_51_code 3 = .ok (.getfield 96, 3) := by decide +kernel
theorem d_RR_rankOf_6 : decode prog_1_method_51_code 6 = .ok (.istore_n 3, 1) := by decide +kernel
theorem d_RR_rankOf_7 : decode prog_1_method_51_code 7 = .ok (.aload_n 1, 1) := by decide +kernel
theorem d_RR_rankOf_8 : decode prog_1_method_51_code 8 = .ok (.getfield 96, 3) := by decide +kernel
theorem d_RR_rankOf_11 : decode prog_1_method_51_code 11 = .ok (.istore 4, 2) := by decide +kernel
theorem d_RR_rankOf_13 : decode prog_1_method_51_code 13 = .ok (.iconst 0, 1) := by decide +kernel
theorem d_RR_rankOf_14 : decode prog_1_method_51_code 14 = .ok (.istore 5, 2) := by decide +kernel
theorem d_RR_rankOf_16 : decode prog_1_method_51_code 16 = .ok (.iload 5, 2) := by decide +kernel
theorem d_RR_rankOf_18 : decode prog_1_method_51_code 18 = .ok (.iconst 2, 1) := by decide +kernel
theorem d_RR_rankOf_19 : decode prog_1_method_51_code 19 = .ok (.aload_n 1, 1) := by decide +kernel
theorem d_RR_rankOf_20 : decode prog_1_method_51_code 20 = .ok (.getfield 96, 3) := by decide +kernel
theorem d_RR_rankOf_23 : decode prog_1_method_51_code 23 = .ok (.imul, 1) := by decide +kernel
theorem d_RR_rankOf_24 : decode prog_1_method_51_code 24 = .ok (.if_icmp .ge 42, 3) := by decide +kernel
theorem d_RR_rankOf_27 : decode prog_1_method_51_code 27 = .ok (.aload_n 1, 1) := by decide +kernel
theorem d_RR_rankOf_28 : decode prog_1_method_51_code 28 = .ok (.getfield 126, 3) := by decide +kernel
theorem d_RR_rankOf_31 : decode prog_1_method_51_code 31 = .ok (.iload 5, 2) := by decide +kernel
theorem d_RR_rankOf_33 : decode prog_1_method_51_code 33 = .ok (.invokestatic 178, 3) := by decide +kernel
theorem d_RR_rankOf_36 : decode prog_1_method_51_code 36 = .ok (.ifCond .eq 9, 3) := by decide +kernel
theorem d_RR_rankOf_39 : decode prog_1_method_51_code 39 = .ok (.iinc 3 (-1), 3) := by decide +kernel
theorem d_RR_rankOf_42 : decode prog_1_method_51_code 42 = .ok (.goto 18, 3) := by decide +kernel
theorem d_RR_rankOf_45 : decode prog_1_method_51_code 45 = .ok (.iload_n 2, 1) := by decide +kernel
theorem d_RR_rankOf_46 : decode prog_1_method_51_code 46 = .ok (.aload_n 0, 1) := by decide +kernel
theorem d_RR_rankOf_47 : decode prog_1_method_51_code 47 = .ok (.iload_n 3, 1) := by decide +kernel
theorem d_RR_rankOf_48 : decode prog_1_method_51_code 48 = .ok (.iconst 1, 1) := by decide +kernel
theorem d_RR_rankOf_49 : decode prog_1_method_51_code 49 = .ok (.isub, 1) := by decide +kernel
theorem d_RR_rankOf_50 : decode prog_1_method_51_code 50 = .ok (.iload 4, 2) := by decide +kernel
theorem d_RR_rankOf_52 : decode prog_1_method_51_code 52 = .ok (.invokevirtual 113, 3) := by decide +kernel
theorem d_RR_rankOf_55 : decode prog_1_method_51_code 55 = .ok (.iadd, 1) := by decide +kernel
theorem d_RR_rankOf_56 : decode prog_1_method_51_code 56 = .ok (.istore_n 2, 1) := by decide +kernel
theorem d_RR_rankOf_57 : decode prog_1_method_51_code 57 = .ok (.iinc 4 (-1), 3) := by decide +kernel
theorem d_RR_rankOf_60 : decode prog_1_method_51_code 60 = .ok (.iinc 5 1, 3) := by decide +kernel
theorem d_RR_rankOf_63 : decode prog_1_method_51_code 63 = .ok (.goto (-47), 3) := by decide +kernel
theorem d_RR_rankOf_66 : decode prog_1_method_51_code 66 = .ok (.iload_n 2, 1) := by decide +kernel
theorem d_RR_rankOf_67 : decode prog_1_method_51_code 67 = .ok (.ireturn, 1) := by decide +kernel
theorem d_RR_loops_0 : decode prog_1_method_21_code 0 = .ok (.iload_n 1, 1) := by decide +kernel
theorem d_RR_loops_1 : decode prog_1_method_21_code 1 = .ok (.invokestatic 80, 3) := by decide +kernel
theorem d_RR_loops_4 : decode prog_1_method_21_code 4 = .ok (.ifCond .ne 6, 3) := by decide +kernel
theorem d_RR_loops_7 : decode prog_1_method_21_code 7 = .ok (.ldc 50, 2) := by decide +kernel
theorem d_RR_loops_9 : decode prog_1_method_21_code 9 = .ok (.ireturn, 1) := by decide +kernel
theorem d_RR_loops_10 : decode prog_1_method_21_code 10 = .ok (.aload_n 0, 1) := by decide +kernel
theorem d_RR_loops_11 : decode prog_1_method_21_code 11 = .ok (.getfield 17, 3) := by decide +kernel
theorem d_RR_loops_14 : decode prog_1_method_21_code 14 = .ok (.iload_n 1, 1) := by decide +kernel
theorem d_RR_loops_15 : decode prog_1_method_21_code 15 = .ok (.aaload, 1) := by decide +kernel
theorem d_RR_loops_16 : decode prog_1_method_21_code 16 = .ok (.astore 4, 2) := by decide +kernel
theorem d_RR_loops_18 : decode prog_1_method_21_code 18 = .ok (.aload 4, 2) := by decide +kernel
theorem d_RR_loops_20 : decode prog_1_method_21_code 20 = .ok (.instanceof 137, 3) := by decide +kernel
theorem d_RR_loops_23 : decode prog_1_method_21_code 23 = .ok (.ifCond .eq 12, 3) := by decide +kernel
theorem d_RR_loops_26 : decode prog_1_method_21_code 26 = .ok (.aload 4, 2) := by decide +kernel
theorem d_RR_loops_28 : decode prog_1_method_21_code 28 = .ok (.checkcast 137, 3) := by decide +kernel
theorem d_RR_loops_31 : decode prog_1_method_21_code 31 = .ok (.astore_n 3, 1) := by decide +kernel
theorem d_RR_loops_32 : decode prog_1_method_21_code 32 = .ok (.goto 9, 3) := by decide +kernel
theorem d_RR_loops_35 : decode prog_1_method_21_code 35 = .ok (.aload_n 0, 1) := by decide +kernel
theorem d_RR_loops_36 : decode prog_1_method_21_code 36 = .ok (.iload_n 1, 1) := by decide +kernel
theorem d_RR_loops_37 : decode prog_1_method_21_code 37 = .ok (.invokevirtual 93, 3) := by decide +kernel
theorem d_RR_loops_40 : decode prog_1_method_21_code 40 = .ok (.ireturn, 1) := by decide +kernel
theorem d_RR_loops_41 : decode prog_1_method_21_code 41 = .ok (.iload_n 2, 1) := by decide +kernel
theorem d_RR_loops_42 : decode prog_1_method_21_code 42 = .ok (.iconst (-1), 1) := by decide +kernel
theorem d_RR_loops_43 : decode prog_1_method_21_code 43 = .ok (.if_icmp .ne 12, 3) := by decide +kernel
theorem d_RR_loops_46 : decode prog_1_method_21_code 46 = .ok (.aload_n 0, 1) := by decide +kernel
theorem d_RR_loops_47 : decode prog_1_method_21_code 47 = .ok (.aload_n 3, 1) := by decide +kernel
theorem d_RR_loops_48 : decode prog_1_method_21_code 48 = .ok (.getfield 187, 3) := by decide +kernel
theorem d_RR_loops_51 : decode prog_1_method_21_code 51 = .ok (.invokevirtual 58, 3) := by decide +kernel
theorem d_RR_loops_54 : decode prog_1_method_21_code 54 = .ok (.ireturn, 1) := by decide +kernel
theorem d_RR_loops_55 : decode prog_1_method_21_code 55 = .ok (.aload_n 3, 1) := by decide +kernel
theorem d_RR_loops_56 : decode prog_1_method_21_code 56 = .ok (.getfield 190, 3) := by decide +kernel
theorem d_RR_loops_59 : decode prog_1_method_21_code 59 = .ok (.iload_n 2, 1) := by decide +kernel
theorem d_RR_loops_60 : decode prog_1_method_21_code 60 = .ok (.invokestatic 174, 3) := by decide +kernel
theorem d_RR_loops_63 : decode prog_1_method_21_code 63 = .ok (.ifCond .eq 16, 3) := by decide +kernel
theorem d_RR_loops_66 : decode prog_1_method_21_code 66 = .ok (.aload_n 0, 1) := by decide +kernel
theorem d_RR_loops_67 : decode prog_1_method_21_code 67 = .ok (.aload_n 3, 1) := by decide +kernel
theorem d_RR_loops_68 : decode prog_1_method_21_code 68 = .ok (.getfield 191, 3) := by decide +kernel
theorem d_RR_loops_71 : decode prog_1_method_21_code 71 = .ok (.iload_n 2, 1) := by decide +kernel
theorem d_RR_loops_72 : decode prog_1_method_21_code 72 = .ok (.iaload, 1) := by decide +kernel
theorem d_RR_loops_73 : decode prog_1_method_21_code 73 = .ok (.invokevirtual 58, 3) := by decide +kernel
theorem d_RR_loops_76 : decode prog_1_method_21_code 76 = .ok (.goto 5, 3) := by decide +kernel
theorem d_RR_loops_79 : decode prog_1_method_21_code 79 = .ok (.ldc 50, 2) := by decide +kernel
theorem d_RR_loops_81 : decode prog_1_method_21_code 81 = .ok (.ireturn, 1) := by decide +kernel
theorem d_RR_way_0 : decode prog_1_method_22_code 0 = .ok (.iload_n 1, 1) := by decide +kernel
theorem d_RR_way_1 : decode prog_1_method_22_code 1 = .ok (.invokestatic 80, 3) := by decide +kernel
theorem d_RR_way_4 : decode prog_1_method_22_code 4 = .ok (.ifCond .ne 6, 3) := by decide +kernel
theorem d_RR_way_7 : decode prog_1_method_22_code 7 = .ok (.ldc 50, 2) := by decide +kernel
theorem d_RR_way_9 : decode prog_1_method_22_code 9 = .ok (.ireturn, 1) := by decide +kernel
theorem d_RR_way_10 : decode prog_1_method_22_code 10 = .ok (.aload_n 0, 1) := by decide +kernel
theorem d_RR_way_11 : decode prog_1_method_22_code 11 = .ok (.getfield 17, 3) := by decide +kernel
theorem d_RR_way_14 : decode prog_1_method_22_code 14 = .ok (.iload_n 1, 1) := by decide +kernel
theorem d_RR_way_15 : decode prog_1_method_22_code 15 = .ok (.aaload, 1) := by decide +kernel
theorem d_RR_way_16 : decode prog_1_method_22_code 16 = .ok (.astore 5, 2) := by decide +kernel
theorem d_RR_way_18 : decode prog_1_method_22_code 18 = .ok (.aload 5, 2) := by decide +kernel
theorem d_RR_way_20 : decode prog_1_method_22_code 20 = .ok (.instanceof 137, 3) := by decide +kernel
theorem d_RR_way_23 : decode prog_1_method_22_code 23 = .ok (.ifCond .eq 13, 3) := by decide +kernel
theorem d_RR_way_26 : decode prog_1_method_22_code 26 = .ok (.aload 5, 2) := by decide +kernel
theorem d_RR_way_28 : decode prog_1_method_22_code 28 = .ok (.checkcast 137, 3) := by decide +kernel
theorem d_RR_way_31 : decode prog_1_method_22_code 31 = .ok (.astore 4, 2) := by decide +kernel
theorem d_RR_way_33 : decode prog_1_method_22_code 33 = .ok (.goto 9, 3) := by decide +kernel
theorem d_RR_way_36 : decode prog_1_method_22_code 36 = .ok (.aload_n 0, 1) := by decide +kernel
theorem d_RR_way_37 : decode prog_1_method_22_code 37 = .ok (.iload_n 1, 1) := by decide +kernel
theorem d_RR_way_38 : decode prog_1_method_22_code 38 = .ok (.invokevirtual 93, 3) := by decide +kernel
theorem d_RR_way_41 : decode prog_1_method_22_code 41 = .ok (.ireturn, 1) := by decide +kernel
theorem d_RR_way_42 : decode prog_1_method_22_code 42 = .ok (.aload 4, 2) := by decide +kernel
theorem d_RR_way_44 : decode prog_1_method_22_code 44 = .ok (.getfield 190, 3) := by decide +kernel
theorem d_RR_way_47 : decode prog_1_method_22_code 47 = .ok (.iload_n 2, 1) := by decide +kernel
theorem d_RR_way_48 : decode prog_1_method_22_code 48 = .ok (.invokestatic 174, 3) := by decide +kernel
theorem d_RR_way_51 : decode prog_1_method_22_code 51 = .ok (.ifCond .ne 6, 3) := by decide +kernel
theorem d_RR_way_54 : decode prog_1_method_22_code 54 = .ok (.ldc 50, 2) := by decide +kernel
theorem d_RR_way_56 : decode prog_1_method_22_code 56 = .ok (.ireturn, 1) := by decide +kernel
theorem d_RR_way_57 : decode prog_1_method_22_code 57 = .ok (.aload 4, 2) := by decide +kernel
theorem d_RR_way_59 : decode prog_1_method_22_code 59 = .ok (.getfield 190, 3) := by decide +kernel
theorem d_RR_way_62 : decode prog_1_method_22_code 62 = .ok (.iload_n 3, 1) := by decide +kernel
theorem d_RR_way_63 : decode prog_1_method_22_code 63 = .ok (.invokestatic 174, 3) := by decide +kernel
theorem d_RR_way_66 : decode prog_1_method_22_code 66 = .ok (.ifCond .ne 10, 3) := by decide +kernel
theorem d_RR_way_69 : decode prog_1_method_22_code 69 = .ok (.aload_n 0, 1) := by decide +kernel
theorem d_RR_way_70 : decode prog_1_method_22_code 70 = .ok (.ldc 117, 2) := by decide +kernel
theorem d_RR_way_72 : decode prog_1_method_22_code 72 = .ok (.invokevirtual 58, 3) := by decide +kernel
theorem d_RR_way_75 : decode prog_1_method_22_code 75 = .ok (.ireturn, 1) := by decide +kernel
theorem d_RR_way_76 : decode prog_1_method_22_code 76 = .ok (.iload_n 2, 1) := by decide +kernel
theorem d_RR_way_77 : decode prog_1_method_22_code 77 = .ok (.istore 5, 2) := by decide +kernel
theorem d_RR_way_79 : decode prog_1_method_22_code 79 = .ok (.iconst 0, 1) := by decide +kernel
theorem d_RR_way_80 : decode prog_1_method_22_code 80 = .ok (.istore 6, 2) := by decide +kernel
theorem d_RR_way_82 : decode prog_1_method_22_code 82 = .ok (.iload 6, 2) := by decide +kernel
theorem d_RR_way_84 : decode prog_1_method_22_code 84 = .ok (.iload_n 3, 1) := by decide +kernel
theorem d_RR_way_85 : decode prog_1_method_22_code 85 = .ok (.if_icmp .ge 33, 3) := by decide +kernel
theorem d_RR_way_88 : decode prog_1_method_22_code 88 = .ok (.aload 4, 2) := by decide +kernel
theorem d_RR_way_90 : decode prog_1_method_22_code 90 = .ok (.iload 5, 2) := by decide +kernel
theorem d_RR_way_92 : decode prog_1_method_22_code 92 = .ok (.iload 6, 2) := by decide +kernel
theorem d_RR_way_94 : decode prog_1_method_22_code 94 = .ok (.invokevirtual 194, 3) := by decide +kernel
theorem d_RR_way_97 : decode prog_1_method_22_code 97 = .ok (.istore 5, 2) := by decide +kernel
theorem d_RR_way_99 : decode prog_1_method_22_code 99 = .ok (.iload 5, 2) := by decide +kernel
theorem d_RR_way_101 : decode prog_1_method_22_code 101 = .ok (.iload_n 2, 1) := by decide +kernel
theorem d_RR_way_102 : decode prog_1_method_22_code 102 = .ok (.if_icmp .ne 10, 3) := by decide +kernel
theorem d_RR_way_105 : decode prog_1_method_22_code 105 = .ok (.aload_n 0, 1) := by decide +kernel
theorem d_RR_way_106 : decode prog_1_method_22_code 106 = .ok (.ldc 117, 2) := by decide +kernel
theorem d_RR_way_108 : decode prog_1_method_22_code 108 = .ok (.invokevirtual 58, 3) := by decide +kernel
theorem d_RR_way_111 : decode prog_1_method_22_code 111 = .ok (.ireturn, 1) := by decide +kernel
theorem d_RR_way_112 : decode prog_1_method_22_code 112 = .ok (.iinc 6 1, 3) := by decide +kernel
theorem d_RR_way_115 : decode prog_1_method_22_code 115 = .ok (.goto (-33), 3) := by decide +kernel
theorem d_RR_way_118 : decode prog_1_method_22_code 118 = .ok (.aload_n 0, 1) := by decide +kernel
theorem d_RR_way_119 : decode prog_1_method_22_code 119 = .ok (.iload 5, 2) := by decide +kernel
theorem d_RR_way_121 : decode prog_1_method_22_code 121 = .ok (.invokevirtual 58, 3) := by decide +kernel
theorem d_RR_way_124 : decode prog_1_method_22_code 124 = .ok (.ireturn, 1) := by decide +kernel
theorem d_La_goneOn_0 : decode prog_4_method_2_code 0 = .ok (.iload_n 2, 1) := by decide +kernel
theorem d_La_goneOn_1 : decode prog_4_method_2_code 1 = .ok (.iconst 1, 1) := by decide +kernel
theorem d_La_goneOn_2 : decode prog_4_method_2_code 2 = .ok (.iand, 1) := by decide +kernel
theorem d_La_goneOn_3 : decode prog_4_method_2_code 3 = .ok (.ifCond .ne 15, 3) := by decide +kernel
theorem d_La_goneOn_6 : decode prog_4_method_2_code 6 = .ok (.aload_n 0, 1) := by decide +kernel
theorem d_La_goneOn_7 : decode prog_4_method_2_code 7 = .ok (.getfield 13, 3) := by decide +kernel
theorem d_La_goneOn_10 : decode prog_4_method_2_code 10 = .ok (.getfield 29, 3) := by decide +kernel
theorem d_La_goneOn_13 : decode prog_4_method_2_code 13 = .ok (.iload_n 1, 1) := by decide +kernel
theorem d_La_goneOn_14 : decode prog_4_method_2_code 14 = .ok (.iaload, 1) := by decide +kernel
theorem d_La_goneOn_15 : decode prog_4_method_2_code 15 = .ok (.goto 12, 3) := by decide +kernel
theorem d_La_goneOn_18 : decode prog_4_method_2_code 18 = .ok (.aload_n 0, 1) := by decide +kernel
theorem d_La_goneOn_19 : decode prog_4_method_2_code 19 = .ok (.getfield 19, 3) := by decide +kernel
theorem d_La_goneOn_22 : decode prog_4_method_2_code 22 = .ok (.getfield 29, 3) := by decide +kernel
theorem d_La_goneOn_25 : decode prog_4_method_2_code 25 = .ok (.iload_n 1, 1) := by decide +kernel
theorem d_La_goneOn_26 : decode prog_4_method_2_code 26 = .ok (.iaload, 1) := by decide +kernel
theorem d_La_goneOn_27 : decode prog_4_method_2_code 27 = .ok (.ireturn, 1) := by decide +kernel
theorem d_RR_lands_0 : decode prog_1_method_23_code 0 = .ok (.iload_n 1, 1) := by decide +kernel
theorem d_RR_lands_1 : decode prog_1_method_23_code 1 = .ok (.iconst 1, 1) := by decide +kernel
theorem d_RR_lands_2 : decode prog_1_method_23_code 2 = .ok (.if_icmp .lt 13, 3) := by decide +kernel
theorem d_RR_lands_5 : decode prog_1_method_23_code 5 = .ok (.iload_n 1, 1) := by decide +kernel
theorem d_RR_lands_6 : decode prog_1_method_23_code 6 = .ok (.bipush 7, 2) := by decide +kernel
theorem d_RR_lands_8 : decode prog_1_method_23_code 8 = .ok (.if_icmp .gt 7, 3) := by decide +kernel
theorem d_RR_lands_11 : decode prog_1_method_23_code 11 = .ok (.iload_n 2, 1) := by decide +kernel
theorem d_RR_lands_12 : decode prog_1_method_23_code 12 = .ok (.ifCond .ge 6, 3) := by decide +kernel
theorem d_RR_lands_15 : decode prog_1_method_23_code 15 = .ok (.ldc 50, 2) := by decide +kernel
theorem d_RR_lands_17 : decode prog_1_method_23_code 17 = .ok (.ireturn, 1) := by decide +kernel
theorem d_RR_lands_18 : decode prog_1_method_23_code 18 = .ok (.iload_n 1, 1) := by decide +kernel
theorem d_RR_lands_19 : decode prog_1_method_23_code 19 = .ok (.iload_n 2, 1) := by decide +kernel
theorem d_RR_lands_20 : decode prog_1_method_23_code 20 = .ok (.invokestatic 197, 3) := by decide +kernel
theorem d_RR_lands_23 : decode prog_1_method_23_code 23 = .ok (.ireturn, 1) := by decide +kernel
theorem d_RR_landsOf_0 : decode prog_1_method_54_code 0 = .ok (.iload_n 1, 1) := by decide +kernel
theorem d_RR_landsOf_1 : decode prog_1_method_54_code 1 = .ok (.iconst 1, 1) := by decide +kernel
theorem d_RR_landsOf_2 : decode prog_1_method_54_code 2 = .ok (.if_icmp .lt 8, 3) := by decide +kernel
theorem d_RR_landsOf_5 : decode prog_1_method_54_code 5 = .ok (.iload_n 1, 1) := by decide +kernel
theorem d_RR_landsOf_6 : decode prog_1_method_54_code 6 = .ok (.iload_n 0, 1) := by decide +kernel
theorem d_RR_landsOf_7 : decode prog_1_method_54_code 7 = .ok (.if_icmp .le 7, 3) := by decide +kernel
theorem d_RR_landsOf_10 : decode prog_1_method_54_code 10 = .ok (.iconst 0, 1) := by decide +kernel
theorem d_RR_landsOf_11 : decode prog_1_method_54_code 11 = .ok (.goto 17, 3) := by decide +kernel
theorem d_RR_landsOf_14 : decode prog_1_method_54_code 14 = .ok (.getstatic 274, 3) := by decide +kernel
theorem d_RR_landsOf_17 : decode prog_1_method_54_code 17 = .ok (.iload_n 0, 1) := by decide +kernel
theorem d_RR_landsOf_18 : decode prog_1_method_54_code 18 = .ok (.iconst 1, 1) := by decide +kernel
theorem d_RR_landsOf_19 : decode prog_1_method_54_code 19 = .ok (.isub, 1) := by decide +kernel
theorem d_RR_landsOf_20 : decode prog_1_method_54_code 20 = .ok (.bipush 7, 2) := by decide +kernel
theorem d_RR_landsOf_22 : decode prog_1_method_54_code 22 = .ok (.imul, 1) := by decide +kernel
theorem d_RR_landsOf_23 : decode prog_1_method_54_code 23 = .ok (.iload_n 1, 1) := by decide +kernel
theorem d_RR_landsOf_24 : decode prog_1_method_54_code 24 = .ok (.iadd, 1) := by decide +kernel
theorem d_RR_landsOf_25 : decode prog_1_method_54_code 25 = .ok (.iconst 1, 1) := by decide +kernel
theorem d_RR_landsOf_26 : decode prog_1_method_54_code 26 = .ok (.isub, 1) := by decide +kernel
theorem d_RR_landsOf_27 : decode prog_1_method_54_code 27 = .ok (.iaload, 1) := by decide +kernel
theorem d_RR_landsOf_28 : decode prog_1_method_54_code 28 = .ok (.ireturn, 1) := by decide +kernel
theorem d_RR_unlike_0 : decode prog_1_method_24_code 0 = .ok (.iload_n 1, 1) := by decide +kernel
theorem d_RR_unlike_1 : decode prog_1_method_24_code 1 = .ok (.iconst 1, 1) := by decide +kernel
theorem d_RR_unlike_2 : decode prog_1_method_24_code 2 = .ok (.if_icmp .lt 8, 3) := by decide +kernel
theorem d_RR_unlike_5 : decode prog_1_method_24_code 5 = .ok (.iload_n 1, 1) := by decide +kernel
theorem d_RR_unlike_6 : decode prog_1_method_24_code 6 = .ok (.iconst 5, 1) := by decide +kernel
theorem d_RR_unlike_7 : decode prog_1_method_24_code 7 = .ok (.if_icmp .le 8, 3) := by decide +kernel
theorem d_RR_unlike_10 : decode prog_1_method_24_code 10 = .ok (.ldc 50, 2) := by decide +kernel
theorem d_RR_unlike_12 : decode prog_1_method_24_code 12 = .ok (.goto 10, 3) := by decide +kernel
theorem d_RR_unlike_15 : decode prog_1_method_24_code 15 = .ok (.getstatic 200, 3) := by decide +kernel
theorem d_RR_unlike_18 : decode prog_1_method_24_code 18 = .ok (.iload_n 1, 1) := by decide +kernel
theorem d_RR_unlike_19 : decode prog_1_method_24_code 19 = .ok (.iconst 1, 1) := by decide +kernel
theorem d_RR_unlike_20 : decode prog_1_method_24_code 20 = .ok (.isub, 1) := by decide +kernel
theorem d_RR_unlike_21 : decode prog_1_method_24_code 21 = .ok (.iaload, 1) := by decide +kernel
theorem d_RR_unlike_22 : decode prog_1_method_24_code 22 = .ok (.ireturn, 1) := by decide +kernel
theorem d_RR_sum_0 : decode prog_1_method_25_code 0 = .ok (.iload_n 1, 1) := by decide +kernel
theorem d_RR_sum_1 : decode prog_1_method_25_code 1 = .ok (.iconst 1, 1) := by decide +kernel
theorem d_RR_sum_2 : decode prog_1_method_25_code 2 = .ok (.if_icmp .lt 21, 3) := by decide +kernel
theorem d_RR_sum_5 : decode prog_1_method_25_code 5 = .ok (.iload_n 1, 1) := by decide +kernel
theorem d_RR_sum_6 : decode prog_1_method_25_code 6 = .ok (.bipush 7, 2) := by decide +kernel
theorem d_RR_sum_8 : decode prog_1_method_25_code 8 = .ok (.if_icmp .gt 15, 3) := by decide +kernel
theorem d_RR_sum_11 : decode prog_1_method_25_code 11 = .ok (.iload_n 2, 1) := by decide +kernel
theorem d_RR_sum_12 : decode prog_1_method_25_code 12 = .ok (.bipush (-9), 2) := by decide +kernel
theorem d_RR_sum_14 : decode prog_1_method_25_code 14 = .ok (.if_icmp .lt 9, 3) := by decide +kernel
theorem d_RR_sum_17 : decode prog_1_method_25_code 17 = .ok (.iload_n 2, 1) := by decide +kernel
theorem d_RR_sum_18 : decode prog_1_method_25_code 18 = .ok (.bipush 9, 2) := by decide +kernel
theorem d_RR_sum_20 : decode prog_1_method_25_code 20 = .ok (.if_icmp .le 7, 3) := by decide +kernel
theorem d_RR_sum_23 : decode prog_1_method_25_code 23 = .ok (.ldc2_w 203, 3) := by decide +kernel
theorem d_RR_sum_26 : decode prog_1_method_25_code 26 = .ok (.lreturn, 1) := by decide +kernel
theorem d_RR_sum_27 : decode prog_1_method_25_code 27 = .ok (.lconst 0, 1) := by decide +kernel
theorem d_RR_sum_28 : decode prog_1_method_25_code 28 = .ok (.lstore_n 3, 1) := by decide +kernel
theorem d_RR_sum_29 : decode prog_1_method_25_code 29 = .ok (.lconst 1, 1) := by decide +kernel
theorem d_RR_sum_30 : decode prog_1_method_25_code 30 = .ok (.lstore 5, 2) := by decide +kernel
theorem d_RR_sum_32 : decode prog_1_method_25_code 32 = .ok (.iconst 1, 1) := by decide +kernel
theorem d_RR_sum_33 : decode prog_1_method_25_code 33 = .ok (.istore 7, 2) := by decide +kernel
theorem d_RR_sum_35 : decode prog_1_method_25_code 35 = .ok (.iload 7, 2) := by decide +kernel
theorem d_RR_sum_37 : decode prog_1_method_25_code 37 = .ok (.iload_n 1, 1) := by decide +kernel
theorem d_RR_sum_38 : decode prog_1_method_25_code 38 = .ok (.if_icmp .gt 29, 3) := by decide +kernel
theorem d_RR_sum_41 : decode prog_1_method_25_code 41 = .ok (.lload 5, 2) := by decide +kernel
theorem d_RR_sum_43 : decode prog_1_method_25_code 43 = .ok (.iload_n 2, 1) := by decide +kernel
theorem d_RR_sum_44 : decode prog_1_method_25_code 44 = .ok (.i2l, 1) := by decide +kernel
theorem d_RR_sum_45 : decode prog_1_method_25_code 45 = .ok (.lmul, 1) := by decide +kernel
theorem d_RR_sum_46 : decode prog_1_method_25_code 46 = .ok (.lstore 5, 2) := by decide +kernel
theorem d_RR_sum_48 : decode prog_1_method_25_code 48 = .ok (.lload_n 3, 1) := by decide +kernel
theorem d_RR_sum_49 : decode prog_1_method_25_code 49 = .ok (.lload 5, 2) := by decide +kernel
theorem d_RR_sum_51 : decode prog_1_method_25_code 51 = .ok (.iload_n 1, 1) := by decide +kernel
theorem d_RR_sum_52 : decode prog_1_method_25_code 52 = .ok (.iload 7, 2) := by decide +kernel
theorem d_RR_sum_54 : decode prog_1_method_25_code 54 = .ok (.invokestatic 197, 3) := by decide +kernel
theorem d_RR_sum_57 : decode prog_1_method_25_code 57 = .ok (.i2l, 1) := by decide +kernel
theorem d_RR_sum_58 : decode prog_1_method_25_code 58 = .ok (.lmul, 1) := by decide +kernel
theorem d_RR_sum_59 : decode prog_1_method_25_code 59 = .ok (.ladd, 1) := by decide +kernel
theorem d_RR_sum_60 : decode prog_1_method_25_code 60 = .ok (.lstore_n 3, 1) := by decide +kernel
theorem d_RR_sum_61 : decode prog_1_method_25_code 61 = .ok (.iinc 7 1, 3) := by decide +kernel
theorem d_RR_sum_64 : decode prog_1_method_25_code 64 = .ok (.goto (-29), 3) := by decide +kernel
theorem d_RR_sum_67 : decode prog_1_method_25_code 67 = .ok (.lload_n 3, 1) := by decide +kernel
theorem d_RR_sum_68 : decode prog_1_method_25_code 68 = .ok (.lreturn, 1) := by decide +kernel
theorem d_RR_stamp_0 : decode prog_1_method_26_code 0 = .ok (.iload_n 1, 1) := by decide +kernel
theorem d_RR_stamp_1 : decode prog_1_method_26_code 1 = .ok (.invokestatic 80, 3) := by decide +kernel
theorem d_RR_stamp_4 : decode prog_1_method_26_code 4 = .ok (.ifCond .ne 6, 3) := by decide +kernel
theorem d_RR_stamp_7 : decode prog_1_method_26_code 7 = .ok (.ldc 50, 2) := by decide +kernel
theorem d_RR_stamp_9 : decode prog_1_method_26_code 9 = .ok (.ireturn, 1) := by decide +kernel
theorem d_RR_stamp_10 : decode prog_1_method_26_code 10 = .ok (.aload_n 0, 1) := by decide +kernel
theorem d_RR_stamp_11 : decode prog_1_method_26_code 11 = .ok (.getfield 17, 3) := by decide +kernel
theorem d_RR_stamp_14 : decode prog_1_method_26_code 14 = .ok (.iload_n 1, 1) := by decide +kernel
theorem d_RR_stamp_15 : decode prog_1_method_26_code 15 = .ok (.aaload, 1) := by decide +kernel
theorem d_RR_stamp_16 : decode prog_1_method_26_code 16 = .ok (.astore 4, 2) := by decide +kernel
theorem d_RR_stamp_18 : decode prog_1_method_26_code 18 = .ok (.aload 4, 2) := by decide +kernel
theorem d_RR_stamp_20 : decode prog_1_method_26_code 20 = .ok (.instanceof 205, 3) := by decide +kernel
theorem d_RR_stamp_23 : decode prog_1_method_26_code 23 = .ok (.ifCond .eq 12, 3) := by decide +kernel
theorem d_RR_stamp_26 : decode prog_1_method_26_code 26 = .ok (.aload 4, 2) := by decide +kernel
theorem d_RR_stamp_28 : decode prog_1_method_26_code 28 = .ok (.checkcast 205, 3) := by decide +kernel
theorem d_RR_stamp_31 : decode prog_1_method_26_code 31 = .ok (.astore_n 3, 1) := by decide +kernel
theorem d_RR_stamp_32 : decode prog_1_method_26_code 32 = .ok (.goto 9, 3) := by decide +kernel
theorem d_RR_stamp_35 : decode prog_1_method_26_code 35 = .ok (.aload_n 0, 1) := by decide +kernel
theorem d_RR_stamp_36 : decode prog_1_method_26_code 36 = .ok (.iload_n 1, 1) := by decide +kernel
theorem d_RR_stamp_37 : decode prog_1_method_26_code 37 = .ok (.invokevirtual 93, 3) := by decide +kernel
theorem d_RR_stamp_40 : decode prog_1_method_26_code 40 = .ok (.ireturn, 1) := by decide +kernel
theorem d_RR_stamp_41 : decode prog_1_method_26_code 41 = .ok (.iload_n 2, 1) := by decide +kernel
theorem d_RR_stamp_42 : decode prog_1_method_26_code 42 = .ok (.ifCond .lt 11, 3) := by decide +kernel
theorem d_RR_stamp_45 : decode prog_1_method_26_code 45 = .ok (.iload_n 2, 1) := by decide +kernel
theorem d_RR_stamp_46 : decode prog_1_method_26_code 46 = .ok (.aload_n 3, 1) := by decide +kernel
theorem d_RR_stamp_47 : decode prog_1_method_26_code 47 = .ok (.getfield 207, 3) := by decide +kernel
theorem d_RR_stamp_50 : decode prog_1_method_26_code 50 = .ok (.if_icmp .lt 8, 3) := by decide +kernel
theorem d_RR_stamp_53 : decode prog_1_method_26_code 53 = .ok (.ldc 50, 2) := by decide +kernel
theorem d_RR_stamp_55 : decode prog_1_method_26_code 55 = .ok (.goto 13, 3) := by decide +kernel
theorem d_RR_stamp_58 : decode prog_1_method_26_code 58 = .ok (.aload_n 0, 1) := by decide +kernel
theorem d_RR_stamp_59 : decode prog_1_method_26_code 59 = .ok (.aload_n 3, 1) := by decide +kernel
theorem d_RR_stamp_60 : decode prog_1_method_26_code 60 = .ok (.getfield 208, 3) := by decide +kernel
theorem d_RR_stamp_63 : decode prog_1_method_26_code 63 = .ok (.iload_n 2, 1) := by decide +kernel
theorem d_RR_stamp_64 : decode prog_1_method_26_code 64 = .ok (.iaload, 1) := by decide +kernel
theorem d_RR_stamp_65 : decode prog_1_method_26_code 65 = .ok (.invokevirtual 58, 3) := by decide +kernel
theorem d_RR_stamp_68 : decode prog_1_method_26_code 68 = .ok (.ireturn, 1) := by decide +kernel
theorem d_RR_clash_0 : decode prog_1_method_27_code 0 = .ok (.iload_n 1, 1) := by decide +kernel
theorem d_RR_clash_1 : decode prog_1_method_27_code 1 = .ok (.invokestatic 80, 3) := by decide +kernel
theorem d_RR_clash_4 : decode prog_1_method_27_code 4 = .ok (.ifCond .eq 12, 3) := by decide +kernel
theorem d_RR_clash_7 : decode prog_1_method_27_code 7 = .ok (.iload_n 2, 1) := by decide +kernel
theorem d_RR_clash_8 : decode prog_1_method_27_code 8 = .ok (.ifCond .lt 8, 3) := by decide +kernel
theorem d_RR_clash_11 : decode prog_1_method_27_code 11 = .ok (.iload_n 2, 1) := by decide +kernel
theorem d_RR_clash_12 : decode prog_1_method_27_code 12 = .ok (.iconst 1, 1) := by decide +kernel
theorem d_RR_clash_13 : decode prog_1_method_27_code 13 = .ok (.if_icmp .le 6, 3) := by decide +kernel
theorem d_RR_clash_16 : decode prog_1_method_27_code 16 = .ok (.ldc 50, 2) := by decide +kernel
theorem d_RR_clash_18 : decode prog_1_method_27_code 18 = .ok (.ireturn, 1) := by decide +kernel
theorem d_RR_clash_19 : decode prog_1_method_27_code 19 = .ok (.aload_n 0, 1) := by decide +kernel
theorem d_RR_clash_20 : decode prog_1_method_27_code 20 = .ok (.getfield 17, 3) := by decide +kernel
theorem d_RR_clash_23 : decode prog_1_method_27_code 23 = .ok (.iload_n 1, 1) := by decide +kernel
theorem d_RR_clash_24 : decode prog_1_method_27_code 24 = .ok (.aaload, 1) := by decide +kernel
theorem d_RR_clash_25 : decode prog_1_method_27_code 25 = .ok (.astore 4, 2) := by decide +kernel
theorem d_RR_clash_27 : decode prog_1_method_27_code 27 = .ok (.aload 4, 2) := by decide +kernel
theorem d_RR_clash_29 : decode prog_1_method_27_code 29 = .ok (.instanceof 205, 3) := by decide +kernel
theorem d_RR_clash_32 : decode prog_1_method_27_code 32 = .ok (.ifCond .eq 12, 3) := by decide +kernel
theorem d_RR_clash_35 : decode prog_1_method_27_code 35 = .ok (.aload 4, 2) := by decide +kernel
theorem d_RR_clash_37 : decode prog_1_method_27_code 37 = .ok (.checkcast 205, 3) := by decide +kernel
theorem d_RR_clash_40 : decode prog_1_method_27_code 40 = .ok (.astore_n 3, 1) := by decide +kernel
theorem d_RR_clash_41 : decode prog_1_method_27_code 41 = .ok (.goto 9, 3) := by decide +kernel
theorem d_RR_clash_44 : decode prog_1_method_27_code 44 = .ok (.aload_n 0, 1) := by decide +kernel
theorem d_RR_clash_45 : decode prog_1_method_27_code 45 = .ok (.iload_n 1, 1) := by decide +kernel
theorem d_RR_clash_46 : decode prog_1_method_27_code 46 = .ok (.invokevirtual 93, 3) := by decide +kernel
theorem d_RR_clash_49 : decode prog_1_method_27_code 49 = .ok (.ireturn, 1) := by decide +kernel
theorem d_RR_clash_50 : decode prog_1_method_27_code 50 = .ok (.aload_n 0, 1) := by decide +kernel
theorem d_RR_clash_51 : decode prog_1_method_27_code 51 = .ok (.iload_n 2, 1) := by decide +kernel
theorem d_RR_clash_52 : decode prog_1_method_27_code 52 = .ok (.ifCond .ne 10, 3) := by decide +kernel
theorem d_RR_clash_55 : decode prog_1_method_27_code 55 = .ok (.aload_n 3, 1) := by decide +kernel
theorem d_RR_clash_56 : decode prog_1_method_27_code 56 = .ok (.getfield 211, 3) := by decide +kernel
theorem d_RR_clash_59 : decode prog_1_method_27_code 59 = .ok (.goto 7, 3) := by decide +kernel
theorem d_RR_clash_62 : decode prog_1_method_27_code 62 = .ok (.aload_n 3, 1) := by decide +kernel
theorem d_RR_clash_63 : decode prog_1_method_27_code 63 = .ok (.getfield 214, 3) := by decide +kernel
theorem d_RR_clash_66 : decode prog_1_method_27_code 66 = .ok (.invokevirtual 58, 3) := by decide +kernel
theorem d_RR_clash_69 : decode prog_1_method_27_code 69 = .ok (.ireturn, 1) := by decide +kernel
theorem d_RR_folds_0 : decode prog_1_method_28_code 0 = .ok (.iload_n 1, 1) := by decide +kernel
theorem d_RR_folds_1 : decode prog_1_method_28_code 1 = .ok (.iconst 1, 1) := by decide +kernel
theorem d_RR_folds_2 : decode prog_1_method_28_code 2 = .ok (.if_icmp .lt 9, 3) := by decide +kernel
theorem d_RR_folds_5 : decode prog_1_method_28_code 5 = .ok (.iload_n 1, 1) := by decide +kernel
theorem d_RR_folds_6 : decode prog_1_method_28_code 6 = .ok (.bipush 8, 2) := by decide +kernel
theorem d_RR_folds_8 : decode prog_1_method_28_code 8 = .ok (.if_icmp .le 8, 3) := by decide +kernel
theorem d_RR_folds_11 : decode prog_1_method_28_code 11 = .ok (.ldc 50, 2) := by decide +kernel
theorem d_RR_folds_13 : decode prog_1_method_28_code 13 = .ok (.goto 12, 3) := by decide +kernel
theorem d_RR_folds_16 : decode prog_1_method_28_code 16 = .ok (.iload_n 1, 1) := by decide +kernel
theorem d_RR_folds_17 : decode prog_1_method_28_code 17 = .ok (.getstatic 217, 3) := by decide +kernel
theorem d_RR_folds_20 : decode prog_1_method_28_code 20 = .ok (.iload_n 1, 1) := by decide +kernel
theorem d_RR_folds_21 : decode prog_1_method_28_code 21 = .ok (.iconst 1, 1) := by decide +kernel
theorem d_RR_folds_22 : decode prog_1_method_28_code 22 = .ok (.isub, 1) := by decide +kernel
theorem d_RR_folds_23 : decode prog_1_method_28_code 23 = .ok (.iaload, 1) := by decide +kernel
theorem d_RR_folds_24 : decode prog_1_method_28_code 24 = .ok (.imul, 1) := by decide +kernel
theorem d_RR_folds_25 : decode prog_1_method_28_code 25 = .ok (.ireturn, 1) := by decide +kernel
theorem d_RR_nthFold_0 : decode prog_1_method_29_code 0 = .ok (.iload_n 1, 1) := by decide +kernel
theorem d_RR_nthFold_1 : decode prog_1_method_29_code 1 = .ok (.invokestatic 80, 3) := by decide +kernel
theorem d_RR_nthFold_4 : decode prog_1_method_29_code 4 = .ok (.ifCond .eq 14, 3) := by decide +kernel
theorem d_RR_nthFold_7 : decode prog_1_method_29_code 7 = .ok (.iload_n 2, 1) := by decide +kernel
theorem d_RR_nthFold_8 : decode prog_1_method_29_code 8 = .ok (.iconst 1, 1) := by decide +kernel
theorem d_RR_nthFold_9 : decode prog_1_method_29_code 9 = .ok (.if_icmp .lt 9, 3) := by decide +kernel
theorem d_RR_nthFold_12 : decode prog_1_method_29_code 12 = .ok (.iload_n 2, 1) := by decide +kernel
theorem d_RR_nthFold_13 : decode prog_1_method_29_code 13 = .ok (.bipush 8, 2) := by decide +kernel
theorem d_RR_nthFold_15 : decode prog_1_method_29_code 15 = .ok (.if_icmp .le 6, 3) := by decide +kernel
theorem d_RR_nthFold_18 : decode prog_1_method_29_code 18 = .ok (.ldc 50, 2) := by decide +kernel
theorem d_RR_nthFold_20 : decode prog_1_method_29_code 20 = .ok (.ireturn, 1) := by decide +kernel
theorem d_RR_nthFold_21 : decode prog_1_method_29_code 21 = .ok (.iload_n 3, 1) := by decide +kernel
theorem d_RR_nthFold_22 : decode prog_1_method_29_code 22 = .ok (.ifCond .lt 12, 3) := by decide +kernel
theorem d_RR_nthFold_25 : decode prog_1_method_29_code 25 = .ok (.aload_n 0, 1) := by decide +kernel
theorem d_RR_nthFold_26 : decode prog_1_method_29_code 26 = .ok (.iload_n 2, 1) := by decide +kernel
theorem d_RR_nthFold_27 : decode prog_1_method_29_code 27 = .ok (.iload_n 3, 1) := by decide +kernel
theorem d_RR_nthFold_28 : decode prog_1_method_29_code 28 = .ok (.invokevirtual 220, 3) := by decide +kernel
theorem d_RR_nthFold_31 : decode prog_1_method_29_code 31 = .ok (.ifCond .ne 10, 3) := by decide +kernel
theorem d_RR_nthFold_34 : decode prog_1_method_29_code 34 = .ok (.aload_n 0, 1) := by decide +kernel
theorem d_RR_nthFold_35 : decode prog_1_method_29_code 35 = .ok (.ldc 117, 2) := by decide +kernel
theorem d_RR_nthFold_37 : decode prog_1_method_29_code 37 = .ok (.invokevirtual 58, 3) := by decide +kernel
theorem d_RR_nthFold_40 : decode prog_1_method_29_code 40 = .ok (.ireturn, 1) := by decide +kernel
theorem d_RR_nthFold_41 : decode prog_1_method_29_code 41 = .ok (.aload_n 0, 1) := by decide +kernel
theorem d_RR_nthFold_42 : decode prog_1_method_29_code 42 = .ok (.iload_n 1, 1) := by decide +kernel
theorem d_RR_nthFold_43 : decode prog_1_method_29_code 43 = .ok (.aload_n 0, 1) := by decide +kernel
theorem d_RR_nthFold_44 : decode prog_1_method_29_code 44 = .ok (.getfield 36, 3) := by decide +kernel
theorem d_RR_nthFold_47 : decode prog_1_method_29_code 47 = .ok (.iload_n 2, 1) := by decide +kernel
theorem d_RR_nthFold_48 : decode prog_1_method_29_code 48 = .ok (.invokestatic 223, 3) := by decide +kernel
theorem d_RR_nthFold_51 : decode prog_1_method_29_code 51 = .ok (.invokestatic 109, 3) := by decide +kernel
theorem d_RR_nthFold_54 : decode prog_1_method_29_code 54 = .ok (.invokevirtual 87, 3) := by decide +kernel
theorem d_RR_nthFold_57 : decode prog_1_method_29_code 57 = .ok (.ireturn, 1) := by decide +kernel
theorem d_RR_seekNthFold_0 : decode prog_1_method_58_code 0 = .ok (.getstatic 217, 3) := by decide +kernel
