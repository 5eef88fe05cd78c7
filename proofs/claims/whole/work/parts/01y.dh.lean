section DEC_01y
theorem dc_H_init_0 : decode cd_H_init 0 = .ok (.aload_n 0, 1) := by decide +kernel
theorem dc_H_init_1 : decode cd_H_init 1 = .ok (.invokespecial 1, 3) := by decide +kernel
theorem dc_H_init_4 : decode cd_H_init 4 = .ok (.iconst 0, 1) := by decide +kernel
theorem dc_H_init_5 : decode cd_H_init 5 = .ok (.iconst 3, 1) := by decide +kernel
theorem dc_H_init_6 : decode cd_H_init 6 = .ok (.iload_n 1, 1) := by decide +kernel
theorem dc_H_init_7 : decode cd_H_init 7 = .ok (.invokestatic 9, 3) := by decide +kernel
theorem dc_H_init_10 : decode cd_H_init 10 = .ok (.invokestatic 15, 3) := by decide +kernel
theorem dc_H_init_13 : decode cd_H_init 13 = .ok (.istore_n 3, 1) := by decide +kernel
theorem dc_H_init_14 : decode cd_H_init 14 = .ok (.iconst 1, 1) := by decide +kernel
theorem dc_H_init_15 : decode cd_H_init 15 = .ok (.iconst 5, 1) := by decide +kernel
theorem dc_H_init_16 : decode cd_H_init 16 = .ok (.iload_n 2, 1) := by decide +kernel
theorem dc_H_init_17 : decode cd_H_init 17 = .ok (.invokestatic 9, 3) := by decide +kernel
theorem dc_H_init_20 : decode cd_H_init 20 = .ok (.invokestatic 15, 3) := by decide +kernel
theorem dc_H_init_23 : decode cd_H_init 23 = .ok (.istore 4, 2) := by decide +kernel
theorem dc_H_init_25 : decode cd_H_init 25 = .ok (.aload_n 0, 1) := by decide +kernel
theorem dc_H_init_26 : decode cd_H_init 26 = .ok (.iload_n 3, 1) := by decide +kernel
theorem dc_H_init_27 : decode cd_H_init 27 = .ok (.invokestatic 18, 3) := by decide +kernel
theorem dc_H_init_30 : decode cd_H_init 30 = .ok (.putfield 22, 3) := by decide +kernel
theorem dc_H_init_33 : decode cd_H_init 33 = .ok (.aload_n 0, 1) := by decide +kernel
theorem dc_H_init_34 : decode cd_H_init 34 = .ok (.iload_n 3, 1) := by decide +kernel
theorem dc_H_init_35 : decode cd_H_init 35 = .ok (.invokestatic 18, 3) := by decide +kernel
theorem dc_H_init_38 : decode cd_H_init 38 = .ok (.putfield 26, 3) := by decide +kernel
theorem dc_H_init_41 : decode cd_H_init 41 = .ok (.aload_n 0, 1) := by decide +kernel
theorem dc_H_init_42 : decode cd_H_init 42 = .ok (.iload_n 3, 1) := by decide +kernel
theorem dc_H_init_43 : decode cd_H_init 43 = .ok (.invokestatic 18, 3) := by decide +kernel
theorem dc_H_init_46 : decode cd_H_init 46 = .ok (.putfield 29, 3) := by decide +kernel
theorem dc_H_init_49 : decode cd_H_init 49 = .ok (.aload_n 0, 1) := by decide +kernel
theorem dc_H_init_50 : decode cd_H_init 50 = .ok (.bipush 32, 2) := by decide +kernel
theorem dc_H_init_52 : decode cd_H_init 52 = .ok (.anewarray 32, 3) := by decide +kernel
theorem dc_H_init_55 : decode cd_H_init 55 = .ok (.putfield 34, 3) := by decide +kernel
theorem dc_H_init_58 : decode cd_H_init 58 = .ok (.iconst 0, 1) := by decide +kernel
theorem dc_H_init_59 : decode cd_H_init 59 = .ok (.istore 5, 2) := by decide +kernel
theorem dc_H_init_61 : decode cd_H_init 61 = .ok (.iload 5, 2) := by decide +kernel
theorem dc_H_init_63 : decode cd_H_init 63 = .ok (.bipush 32, 2) := by decide +kernel
theorem dc_H_init_65 : decode cd_H_init 65 = .ok (.if_icmp .ge 23, 3) := by decide +kernel
theorem dc_H_init_68 : decode cd_H_init 68 = .ok (.aload_n 0, 1) := by decide +kernel
theorem dc_H_init_69 : decode cd_H_init 69 = .ok (.getfield 34, 3) := by decide +kernel
theorem dc_H_init_72 : decode cd_H_init 72 = .ok (.iload 5, 2) := by decide +kernel
theorem dc_H_init_74 : decode cd_H_init 74 = .ok (.new 32, 3) := by decide +kernel
theorem dc_H_init_77 : decode cd_H_init 77 = .ok (.dup, 1) := by decide +kernel
theorem dc_H_init_78 : decode cd_H_init 78 = .ok (.invokespecial 38, 3) := by decide +kernel
theorem dc_H_init_81 : decode cd_H_init 81 = .ok (.aastore, 1) := by decide +kernel
theorem dc_H_init_82 : decode cd_H_init 82 = .ok (.iinc 5 1, 3) := by decide +kernel
theorem dc_H_init_85 : decode cd_H_init 85 = .ok (.goto (-24), 3) := by decide +kernel
theorem dc_H_init_88 : decode cd_H_init 88 = .ok (.aload_n 0, 1) := by decide +kernel
theorem dc_H_init_89 : decode cd_H_init 89 = .ok (.getfield 34, 3) := by decide +kernel
theorem dc_H_init_92 : decode cd_H_init 92 = .ok (.iconst 0, 1) := by decide +kernel
theorem dc_H_init_93 : decode cd_H_init 93 = .ok (.aaload, 1) := by decide +kernel
theorem dc_H_init_94 : decode cd_H_init 94 = .ok (.astore 5, 2) := by decide +kernel
theorem dc_H_init_96 : decode cd_H_init 96 = .ok (.aload 5, 2) := by decide +kernel
theorem dc_H_init_98 : decode cd_H_init 98 = .ok (.iconst 1, 1) := by decide +kernel
theorem dc_H_init_99 : decode cd_H_init 99 = .ok (.putfield 39, 3) := by decide +kernel
theorem dc_H_init_102 : decode cd_H_init 102 = .ok (.aload 5, 2) := by decide +kernel
theorem dc_H_init_104 : decode cd_H_init 104 = .ok (.iconst 1, 1) := by decide +kernel
theorem dc_H_init_105 : decode cd_H_init 105 = .ok (.putfield 43, 3) := by decide +kernel
theorem dc_H_init_108 : decode cd_H_init 108 = .ok (.aload_n 0, 1) := by decide +kernel
theorem dc_H_init_109 : decode cd_H_init 109 = .ok (.iload 4, 2) := by decide +kernel
theorem dc_H_init_111 : decode cd_H_init 111 = .ok (.anewarray 47, 3) := by decide +kernel
theorem dc_H_init_114 : decode cd_H_init 114 = .ok (.putfield 49, 3) := by decide +kernel
theorem dc_H_init_117 : decode cd_H_init 117 = .ok (.iconst 0, 1) := by decide +kernel
theorem dc_H_init_118 : decode cd_H_init 118 = .ok (.istore 6, 2) := by decide +kernel
theorem dc_H_init_120 : decode cd_H_init 120 = .ok (.iload 6, 2) := by decide +kernel
theorem dc_H_init_122 : decode cd_H_init 122 = .ok (.iload 4, 2) := by decide +kernel
theorem dc_H_init_124 : decode cd_H_init 124 = .ok (.if_icmp .ge 27, 3) := by decide +kernel
theorem dc_H_init_127 : decode cd_H_init 127 = .ok (.aload_n 0, 1) := by decide +kernel
theorem dc_H_init_128 : decode cd_H_init 128 = .ok (.getfield 49, 3) := by decide +kernel
theorem dc_H_init_131 : decode cd_H_init 131 = .ok (.iload 6, 2) := by decide +kernel
theorem dc_H_init_133 : decode cd_H_init 133 = .ok (.new 47, 3) := by decide +kernel
theorem dc_H_init_136 : decode cd_H_init 136 = .ok (.dup, 1) := by decide +kernel
theorem dc_H_init_137 : decode cd_H_init 137 = .ok (.iload 6, 2) := by decide +kernel
theorem dc_H_init_139 : decode cd_H_init 139 = .ok (.aload 5, 2) := by decide +kernel
theorem dc_H_init_141 : decode cd_H_init 141 = .ok (.invokespecial 53, 3) := by decide +kernel
theorem dc_H_init_144 : decode cd_H_init 144 = .ok (.aastore, 1) := by decide +kernel
theorem dc_H_init_145 : decode cd_H_init 145 = .ok (.iinc 6 1, 3) := by decide +kernel
theorem dc_H_init_148 : decode cd_H_init 148 = .ok (.goto (-28), 3) := by decide +kernel
theorem dc_H_init_151 : decode cd_H_init 151 = .ok (.return_, 1) := by decide +kernel
theorem dc_H_call_0 : decode cd_H_call 0 = .ok (.aload_n 0, 1) := by decide +kernel
theorem dc_H_call_1 : decode cd_H_call 1 = .ok (.iload_n 1, 1) := by decide +kernel
theorem dc_H_call_2 : decode cd_H_call 2 = .ok (.invokevirtual 56, 3) := by decide +kernel
theorem dc_H_call_5 : decode cd_H_call 5 = .ok (.iload_n 2, 1) := by decide +kernel
theorem dc_H_call_6 : decode cd_H_call 6 = .ok (.invokestatic 60, 3) := by decide +kernel
theorem dc_H_call_9 : decode cd_H_call 9 = .ok (.aload_n 0, 1) := by decide +kernel
theorem dc_H_call_10 : decode cd_H_call 10 = .ok (.getfield 49, 3) := by decide +kernel
theorem dc_H_call_13 : decode cd_H_call 13 = .ok (.iload_n 1, 1) := by decide +kernel
theorem dc_H_call_14 : decode cd_H_call 14 = .ok (.aaload, 1) := by decide +kernel
theorem dc_H_call_15 : decode cd_H_call 15 = .ok (.astore 5, 2) := by decide +kernel
theorem dc_H_call_17 : decode cd_H_call 17 = .ok (.aload 5, 2) := by decide +kernel
theorem dc_H_call_19 : decode cd_H_call 19 = .ok (.getfield 63, 3) := by decide +kernel
theorem dc_H_call_22 : decode cd_H_call 22 = .ok (.iconst (-1), 1) := by decide +kernel
theorem dc_H_call_23 : decode cd_H_call 23 = .ok (.if_icmp .eq 13, 3) := by decide +kernel
theorem dc_H_call_26 : decode cd_H_call 26 = .ok (.new 66, 3) := by decide +kernel
theorem dc_H_call_29 : decode cd_H_call 29 = .ok (.dup, 1) := by decide +kernel
theorem dc_H_call_30 : decode cd_H_call 30 = .ok (.ldc 68, 2) := by decide +kernel
theorem dc_H_call_32 : decode cd_H_call 32 = .ok (.invokespecial 70, 3) := by decide +kernel
theorem dc_H_call_35 : decode cd_H_call 35 = .ok (.athrow, 1) := by decide +kernel
theorem dc_H_call_36 : decode cd_H_call 36 = .ok (.aload 5, 2) := by decide +kernel
theorem dc_H_call_38 : decode cd_H_call 38 = .ok (.iload_n 2, 1) := by decide +kernel
theorem dc_H_call_39 : decode cd_H_call 39 = .ok (.putfield 73, 3) := by decide +kernel
theorem dc_H_call_42 : decode cd_H_call 42 = .ok (.aload 5, 2) := by decide +kernel
theorem dc_H_call_44 : decode cd_H_call 44 = .ok (.iload_n 3, 1) := by decide +kernel
theorem dc_H_call_45 : decode cd_H_call 45 = .ok (.putfield 76, 3) := by decide +kernel
theorem dc_H_call_48 : decode cd_H_call 48 = .ok (.aload 5, 2) := by decide +kernel
theorem dc_H_call_50 : decode cd_H_call 50 = .ok (.iload 4, 2) := by decide +kernel
theorem dc_H_call_52 : decode cd_H_call 52 = .ok (.putfield 79, 3) := by decide +kernel
theorem dc_H_call_55 : decode cd_H_call 55 = .ok (.aload 5, 2) := by decide +kernel
theorem dc_H_call_57 : decode cd_H_call 57 = .ok (.iconst 0, 1) := by decide +kernel
theorem dc_H_call_58 : decode cd_H_call 58 = .ok (.putfield 63, 3) := by decide +kernel
theorem dc_H_call_61 : decode cd_H_call 61 = .ok (.return_, 1) := by decide +kernel
theorem dc_H_step_0 : decode cd_H_step 0 = .ok (.aload_n 0, 1) := by decide +kernel
theorem dc_H_step_1 : decode cd_H_step 1 = .ok (.iload_n 1, 1) := by decide +kernel
theorem dc_H_step_2 : decode cd_H_step 2 = .ok (.invokevirtual 56, 3) := by decide +kernel
theorem dc_H_step_5 : decode cd_H_step 5 = .ok (.aload_n 0, 1) := by decide +kernel
theorem dc_H_step_6 : decode cd_H_step 6 = .ok (.aload_n 0, 1) := by decide +kernel
theorem dc_H_step_7 : decode cd_H_step 7 = .ok (.getfield 49, 3) := by decide +kernel
theorem dc_H_step_10 : decode cd_H_step 10 = .ok (.iload_n 1, 1) := by decide +kernel
theorem dc_H_step_11 : decode cd_H_step 11 = .ok (.aaload, 1) := by decide +kernel
theorem dc_H_step_12 : decode cd_H_step 12 = .ok (.invokevirtual 82, 3) := by decide +kernel
theorem dc_H_step_15 : decode cd_H_step 15 = .ok (.ireturn, 1) := by decide +kernel
theorem dc_H_run_0 : decode cd_H_run 0 = .ok (.iload_n 2, 1) := by decide +kernel
theorem dc_H_run_1 : decode cd_H_run 1 = .ok (.iconst 1, 1) := by decide +kernel
theorem dc_H_run_2 : decode cd_H_run 2 = .ok (.if_icmp .lt 10, 3) := by decide +kernel
theorem dc_H_run_5 : decode cd_H_run 5 = .ok (.iload_n 2, 1) := by decide +kernel
theorem dc_H_run_6 : decode cd_H_run 6 = .ok (.sipush 1000, 3) := by decide +kernel
theorem dc_H_run_9 : decode cd_H_run 9 = .ok (.if_icmp .le 13, 3) := by decide +kernel
theorem dc_H_run_12 : decode cd_H_run 12 = .ok (.new 86, 3) := by decide +kernel
theorem dc_H_run_15 : decode cd_H_run 15 = .ok (.dup, 1) := by decide +kernel
theorem dc_H_run_16 : decode cd_H_run 16 = .ok (.ldc 88, 2) := by decide +kernel
theorem dc_H_run_18 : decode cd_H_run 18 = .ok (.invokespecial 90, 3) := by decide +kernel
theorem dc_H_run_21 : decode cd_H_run 21 = .ok (.athrow, 1) := by decide +kernel
theorem dc_H_run_22 : decode cd_H_run 22 = .ok (.iload_n 1, 1) := by decide +kernel
theorem dc_H_run_23 : decode cd_H_run 23 = .ok (.istore_n 3, 1) := by decide +kernel
theorem dc_H_run_24 : decode cd_H_run 24 = .ok (.iconst 0, 1) := by decide +kernel
theorem dc_H_run_25 : decode cd_H_run 25 = .ok (.istore 4, 2) := by decide +kernel
theorem dc_H_run_27 : decode cd_H_run 27 = .ok (.iconst 0, 1) := by decide +kernel
theorem dc_H_run_28 : decode cd_H_run 28 = .ok (.istore 5, 2) := by decide +kernel
theorem dc_H_run_30 : decode cd_H_run 30 = .ok (.iload 5, 2) := by decide +kernel
theorem dc_H_run_32 : decode cd_H_run 32 = .ok (.iload_n 2, 1) := by decide +kernel
theorem dc_H_run_33 : decode cd_H_run 33 = .ok (.if_icmp .ge 44, 3) := by decide +kernel
theorem dc_H_run_36 : decode cd_H_run 36 = .ok (.iload_n 3, 1) := by decide +kernel
theorem dc_H_run_37 : decode cd_H_run 37 = .ok (.ldc 91, 2) := by decide +kernel
theorem dc_H_run_39 : decode cd_H_run 39 = .ok (.imul, 1) := by decide +kernel
theorem dc_H_run_40 : decode cd_H_run 40 = .ok (.sipush 12345, 3) := by decide +kernel
theorem dc_H_run_43 : decode cd_H_run 43 = .ok (.iadd, 1) := by decide +kernel
theorem dc_H_run_44 : decode cd_H_run 44 = .ok (.istore_n 3, 1) := by decide +kernel
theorem dc_H_run_45 : decode cd_H_run 45 = .ok (.aload_n 0, 1) := by decide +kernel
theorem dc_H_run_46 : decode cd_H_run 46 = .ok (.aload_n 0, 1) := by decide +kernel
theorem dc_H_run_47 : decode cd_H_run 47 = .ok (.getfield 49, 3) := by decide +kernel
theorem dc_H_run_50 : decode cd_H_run 50 = .ok (.iload_n 3, 1) := by decide +kernel
theorem dc_H_run_51 : decode cd_H_run 51 = .ok (.bipush 16, 2) := by decide +kernel
theorem dc_H_run_53 : decode cd_H_run 53 = .ok (.iushr, 1) := by decide +kernel
theorem dc_H_run_54 : decode cd_H_run 54 = .ok (.aload_n 0, 1) := by decide +kernel
theorem dc_H_run_55 : decode cd_H_run 55 = .ok (.getfield 49, 3) := by decide +kernel
theorem dc_H_run_58 : decode cd_H_run 58 = .ok (.arraylength, 1) := by decide +kernel
theorem dc_H_run_59 : decode cd_H_run 59 = .ok (.irem, 1) := by decide +kernel
theorem dc_H_run_60 : decode cd_H_run 60 = .ok (.aaload, 1) := by decide +kernel
theorem dc_H_run_61 : decode cd_H_run 61 = .ok (.invokevirtual 82, 3) := by decide +kernel
theorem dc_H_run_64 : decode cd_H_run 64 = .ok (.iconst 1, 1) := by decide +kernel
theorem dc_H_run_65 : decode cd_H_run 65 = .ok (.if_icmp .ne 6, 3) := by decide +kernel
theorem dc_H_run_68 : decode cd_H_run 68 = .ok (.iinc 4 1, 3) := by decide +kernel
theorem dc_H_run_71 : decode cd_H_run 71 = .ok (.iinc 5 1, 3) := by decide +kernel
theorem dc_H_run_74 : decode cd_H_run 74 = .ok (.goto (-44), 3) := by decide +kernel
theorem dc_H_run_77 : decode cd_H_run 77 = .ok (.iload 4, 2) := by decide +kernel
theorem dc_H_run_79 : decode cd_H_run 79 = .ok (.ireturn, 1) := by decide +kernel
theorem dc_H_done_0 : decode cd_H_done 0 = .ok (.aload_n 0, 1) := by decide +kernel
theorem dc_H_done_1 : decode cd_H_done 1 = .ok (.iload_n 1, 1) := by decide +kernel
theorem dc_H_done_2 : decode cd_H_done 2 = .ok (.invokevirtual 56, 3) := by decide +kernel
theorem dc_H_done_5 : decode cd_H_done 5 = .ok (.aload_n 0, 1) := by decide +kernel
theorem dc_H_done_6 : decode cd_H_done 6 = .ok (.getfield 49, 3) := by decide +kernel
theorem dc_H_done_9 : decode cd_H_done 9 = .ok (.iload_n 1, 1) := by decide +kernel
theorem dc_H_done_10 : decode cd_H_done 10 = .ok (.aaload, 1) := by decide +kernel
theorem dc_H_done_11 : decode cd_H_done 11 = .ok (.getfield 92, 3) := by decide +kernel
theorem dc_H_done_14 : decode cd_H_done 14 = .ok (.ireturn, 1) := by decide +kernel
theorem dc_H_answer_0 : decode cd_H_answer 0 = .ok (.aload_n 0, 1) := by decide +kernel
theorem dc_H_answer_1 : decode cd_H_answer 1 = .ok (.iload_n 1, 1) := by decide +kernel
theorem dc_H_answer_2 : decode cd_H_answer 2 = .ok (.invokevirtual 56, 3) := by decide +kernel
theorem dc_H_answer_5 : decode cd_H_answer 5 = .ok (.aload_n 0, 1) := by decide +kernel
theorem dc_H_answer_6 : decode cd_H_answer 6 = .ok (.getfield 49, 3) := by decide +kernel
theorem dc_H_answer_9 : decode cd_H_answer 9 = .ok (.iload_n 1, 1) := by decide +kernel
theorem dc_H_answer_10 : decode cd_H_answer 10 = .ok (.aaload, 1) := by decide +kernel
theorem dc_H_answer_11 : decode cd_H_answer 11 = .ok (.getfield 92, 3) := by decide +kernel
theorem dc_H_answer_14 : decode cd_H_answer 14 = .ok (.ifCond .ne 13, 3) := by decide +kernel
theorem dc_H_answer_17 : decode cd_H_answer 17 = .ok (.new 66, 3) := by decide +kernel
theorem dc_H_answer_20 : decode cd_H_answer 20 = .ok (.dup, 1) := by decide +kernel
theorem dc_H_answer_21 : decode cd_H_answer 21 = .ok (.ldc 95, 2) := by decide +kernel
theorem dc_H_answer_23 : decode cd_H_answer 23 = .ok (.invokespecial 70, 3) := by decide +kernel
theorem dc_H_answer_26 : decode cd_H_answer 26 = .ok (.athrow, 1) := by decide +kernel
theorem dc_H_answer_27 : decode cd_H_answer 27 = .ok (.aload_n 0, 1) := by decide +kernel
theorem dc_H_answer_28 : decode cd_H_answer 28 = .ok (.getfield 49, 3) := by decide +kernel
theorem dc_H_answer_31 : decode cd_H_answer 31 = .ok (.iload_n 1, 1) := by decide +kernel
theorem dc_H_answer_32 : decode cd_H_answer 32 = .ok (.aaload, 1) := by decide +kernel
theorem dc_H_answer_33 : decode cd_H_answer 33 = .ok (.getfield 97, 3) := by decide +kernel
theorem dc_H_answer_36 : decode cd_H_answer 36 = .ok (.ireturn, 1) := by decide +kernel
theorem dc_H_placeOf_0 : decode cd_H_placeOf 0 = .ok (.aload_n 0, 1) := by decide +kernel
theorem dc_H_placeOf_1 : decode cd_H_placeOf 1 = .ok (.iload_n 1, 1) := by decide +kernel
theorem dc_H_placeOf_2 : decode cd_H_placeOf 2 = .ok (.invokevirtual 56, 3) := by decide +kernel
theorem dc_H_placeOf_5 : decode cd_H_placeOf 5 = .ok (.aload_n 0, 1) := by decide +kernel
theorem dc_H_placeOf_6 : decode cd_H_placeOf 6 = .ok (.getfield 49, 3) := by decide +kernel
theorem dc_H_placeOf_9 : decode cd_H_placeOf 9 = .ok (.iload_n 1, 1) := by decide +kernel
theorem dc_H_placeOf_10 : decode cd_H_placeOf 10 = .ok (.aaload, 1) := by decide +kernel
theorem dc_H_placeOf_11 : decode cd_H_placeOf 11 = .ok (.getfield 100, 3) := by decide +kernel
theorem dc_H_placeOf_14 : decode cd_H_placeOf 14 = .ok (.ireturn, 1) := by decide +kernel
theorem dc_H_end_0 : decode cd_H_end 0 = .ok (.iconst 1, 1) := by decide +kernel
theorem dc_H_end_1 : decode cd_H_end 1 = .ok (.istore_n 1, 1) := by decide +kernel
theorem dc_H_end_2 : decode cd_H_end 2 = .ok (.aload_n 0, 1) := by decide +kernel
theorem dc_H_end_3 : decode cd_H_end 3 = .ok (.getfield 34, 3) := by decide +kernel
theorem dc_H_end_6 : decode cd_H_end 6 = .ok (.astore_n 2, 1) := by decide +kernel
theorem dc_H_end_7 : decode cd_H_end 7 = .ok (.aload_n 2, 1) := by decide +kernel
theorem dc_H_end_8 : decode cd_H_end 8 = .ok (.arraylength, 1) := by decide +kernel
theorem dc_H_end_9 : decode cd_H_end 9 = .ok (.istore_n 3, 1) := by decide +kernel
theorem dc_H_end_10 : decode cd_H_end 10 = .ok (.iconst 0, 1) := by decide +kernel
theorem dc_H_end_11 : decode cd_H_end 11 = .ok (.istore 4, 2) := by decide +kernel
theorem dc_H_end_13 : decode cd_H_end 13 = .ok (.iload 4, 2) := by decide +kernel
theorem dc_H_end_15 : decode cd_H_end 15 = .ok (.iload_n 3, 1) := by decide +kernel
theorem dc_H_end_16 : decode cd_H_end 16 = .ok (.if_icmp .ge 33, 3) := by decide +kernel
theorem dc_H_end_19 : decode cd_H_end 19 = .ok (.aload_n 2, 1) := by decide +kernel
theorem dc_H_end_20 : decode cd_H_end 20 = .ok (.iload 4, 2) := by decide +kernel
theorem dc_H_end_22 : decode cd_H_end 22 = .ok (.aaload, 1) := by decide +kernel
theorem dc_H_end_23 : decode cd_H_end 23 = .ok (.astore 5, 2) := by decide +kernel
theorem dc_H_end_25 : decode cd_H_end 25 = .ok (.aload 5, 2) := by decide +kernel
theorem dc_H_end_27 : decode cd_H_end 27 = .ok (.invokevirtual 103, 3) := by decide +kernel
theorem dc_H_end_30 : decode cd_H_end 30 = .ok (.ifCond .eq 13, 3) := by decide +kernel
theorem dc_H_end_33 : decode cd_H_end 33 = .ok (.iload_n 1, 1) := by decide +kernel
theorem dc_H_end_34 : decode cd_H_end 34 = .ok (.aload 5, 2) := by decide +kernel
theorem dc_H_end_36 : decode cd_H_end 36 = .ok (.getfield 43, 3) := by decide +kernel
theorem dc_H_end_39 : decode cd_H_end 39 = .ok (.invokestatic 15, 3) := by decide +kernel
theorem dc_H_end_42 : decode cd_H_end 42 = .ok (.istore_n 1, 1) := by decide +kernel
theorem dc_H_end_43 : decode cd_H_end 43 = .ok (.iinc 4 1, 3) := by decide +kernel
theorem dc_H_end_46 : decode cd_H_end 46 = .ok (.goto (-33), 3) := by decide +kernel
theorem dc_H_end_49 : decode cd_H_end 49 = .ok (.iload_n 1, 1) := by decide +kernel
theorem dc_H_end_50 : decode cd_H_end 50 = .ok (.ireturn, 1) := by decide +kernel
theorem dc_H_oldest_0 : decode cd_H_oldest 0 = .ok (.aload_n 0, 1) := by decide +kernel
theorem dc_H_oldest_1 : decode cd_H_oldest 1 = .ok (.invokevirtual 107, 3) := by decide +kernel
theorem dc_H_oldest_4 : decode cd_H_oldest 4 = .ok (.istore_n 1, 1) := by decide +kernel
theorem dc_H_oldest_5 : decode cd_H_oldest 5 = .ok (.aload_n 0, 1) := by decide +kernel
theorem dc_H_oldest_6 : decode cd_H_oldest 6 = .ok (.getfield 34, 3) := by decide +kernel
theorem dc_H_oldest_9 : decode cd_H_oldest 9 = .ok (.astore_n 2, 1) := by decide +kernel
theorem dc_H_oldest_10 : decode cd_H_oldest 10 = .ok (.aload_n 2, 1) := by decide +kernel
theorem dc_H_oldest_11 : decode cd_H_oldest 11 = .ok (.arraylength, 1) := by decide +kernel
theorem dc_H_oldest_12 : decode cd_H_oldest 12 = .ok (.istore_n 3, 1) := by decide +kernel
theorem dc_H_oldest_13 : decode cd_H_oldest 13 = .ok (.iconst 0, 1) := by decide +kernel
theorem dc_H_oldest_14 : decode cd_H_oldest 14 = .ok (.istore 4, 2) := by decide +kernel
theorem dc_H_oldest_16 : decode cd_H_oldest 16 = .ok (.iload 4, 2) := by decide +kernel
theorem dc_H_oldest_18 : decode cd_H_oldest 18 = .ok (.iload_n 3, 1) := by decide +kernel
theorem dc_H_oldest_19 : decode cd_H_oldest 19 = .ok (.if_icmp .ge 33, 3) := by decide +kernel
theorem dc_H_oldest_22 : decode cd_H_oldest 22 = .ok (.aload_n 2, 1) := by decide +kernel
theorem dc_H_oldest_23 : decode cd_H_oldest 23 = .ok (.iload 4, 2) := by decide +kernel
theorem dc_H_oldest_25 : decode cd_H_oldest 25 = .ok (.aaload, 1) := by decide +kernel
theorem dc_H_oldest_26 : decode cd_H_oldest 26 = .ok (.astore 5, 2) := by decide +kernel
theorem dc_H_oldest_28 : decode cd_H_oldest 28 = .ok (.aload 5, 2) := by decide +kernel
theorem dc_H_oldest_30 : decode cd_H_oldest 30 = .ok (.invokevirtual 103, 3) := by decide +kernel
theorem dc_H_oldest_33 : decode cd_H_oldest 33 = .ok (.ifCond .eq 13, 3) := by decide +kernel
theorem dc_H_oldest_36 : decode cd_H_oldest 36 = .ok (.iload_n 1, 1) := by decide +kernel
theorem dc_H_oldest_37 : decode cd_H_oldest 37 = .ok (.aload 5, 2) := by decide +kernel
theorem dc_H_oldest_39 : decode cd_H_oldest 39 = .ok (.getfield 43, 3) := by decide +kernel
theorem dc_H_oldest_42 : decode cd_H_oldest 42 = .ok (.invokestatic 9, 3) := by decide +kernel
theorem dc_H_oldest_45 : decode cd_H_oldest 45 = .ok (.istore_n 1, 1) := by decide +kernel
theorem dc_H_oldest_46 : decode cd_H_oldest 46 = .ok (.iinc 4 1, 3) := by decide +kernel
theorem dc_H_oldest_49 : decode cd_H_oldest 49 = .ok (.goto (-33), 3) := by decide +kernel
theorem dc_H_oldest_52 : decode cd_H_oldest 52 = .ok (.iload_n 1, 1) := by decide +kernel
theorem dc_H_oldest_53 : decode cd_H_oldest 53 = .ok (.ireturn, 1) := by decide +kernel
theorem dc_H_node_0 : decode cd_H_node 0 = .ok (.aload_n 0, 1) := by decide +kernel
theorem dc_H_node_1 : decode cd_H_node 1 = .ok (.iload_n 1, 1) := by decide +kernel
theorem dc_H_node_2 : decode cd_H_node 2 = .ok (.invokevirtual 111, 3) := by decide +kernel
theorem dc_H_node_5 : decode cd_H_node 5 = .ok (.astore_n 3, 1) := by decide +kernel
theorem dc_H_node_6 : decode cd_H_node 6 = .ok (.aload_n 3, 1) := by decide +kernel
theorem dc_H_node_7 : decode cd_H_node 7 = .ok (.ifnonnull 13, 3) := by decide +kernel
theorem dc_H_node_10 : decode cd_H_node 10 = .ok (.new 115, 3) := by decide +kernel
theorem dc_H_node_13 : decode cd_H_node 13 = .ok (.dup, 1) := by decide +kernel
theorem dc_H_node_14 : decode cd_H_node 14 = .ok (.ldc 117, 2) := by decide +kernel
theorem dc_H_node_16 : decode cd_H_node 16 = .ok (.invokespecial 119, 3) := by decide +kernel
theorem dc_H_node_19 : decode cd_H_node 19 = .ok (.athrow, 1) := by decide +kernel
theorem dc_H_node_20 : decode cd_H_node 20 = .ok (.iload_n 2, 1) := by decide +kernel
theorem dc_H_node_21 : decode cd_H_node 21 = .ok (.ifCond .lt 8, 3) := by decide +kernel
theorem dc_H_node_24 : decode cd_H_node 24 = .ok (.iload_n 2, 1) := by decide +kernel
theorem dc_H_node_25 : decode cd_H_node 25 = .ok (.iconst 3, 1) := by decide +kernel
theorem dc_H_node_26 : decode cd_H_node 26 = .ok (.if_icmp .le 13, 3) := by decide +kernel
theorem dc_H_node_29 : decode cd_H_node 29 = .ok (.new 86, 3) := by decide +kernel
theorem dc_H_node_32 : decode cd_H_node 32 = .ok (.dup, 1) := by decide +kernel
theorem dc_H_node_33 : decode cd_H_node 33 = .ok (.ldc 120, 2) := by decide +kernel
theorem dc_H_node_35 : decode cd_H_node 35 = .ok (.invokespecial 90, 3) := by decide +kernel
theorem dc_H_node_38 : decode cd_H_node 38 = .ok (.athrow, 1) := by decide +kernel
theorem dc_H_node_39 : decode cd_H_node 39 = .ok (.aload_n 3, 1) := by decide +kernel
theorem dc_H_node_40 : decode cd_H_node 40 = .ok (.iload_n 2, 1) := by decide +kernel
theorem dc_H_node_41 : decode cd_H_node 41 = .ok (.invokevirtual 122, 3) := by decide +kernel
theorem dc_H_node_44 : decode cd_H_node 44 = .ok (.ireturn, 1) := by decide +kernel
theorem dc_H_stage_0 : decode cd_H_stage 0 = .ok (.aload_n 0, 1) := by decide +kernel
theorem dc_H_stage_1 : decode cd_H_stage 1 = .ok (.iload_n 1, 1) := by decide +kernel
theorem dc_H_stage_2 : decode cd_H_stage 2 = .ok (.invokevirtual 56, 3) := by decide +kernel
theorem dc_H_stage_5 : decode cd_H_stage 5 = .ok (.aload_n 0, 1) := by decide +kernel
theorem dc_H_stage_6 : decode cd_H_stage 6 = .ok (.getfield 49, 3) := by decide +kernel
theorem dc_H_stage_9 : decode cd_H_stage 9 = .ok (.iload_n 1, 1) := by decide +kernel
theorem dc_H_stage_10 : decode cd_H_stage 10 = .ok (.aaload, 1) := by decide +kernel
theorem dc_H_stage_11 : decode cd_H_stage 11 = .ok (.getfield 63, 3) := by decide +kernel
theorem dc_H_stage_14 : decode cd_H_stage 14 = .ok (.ireturn, 1) := by decide +kernel
theorem dc_H_head_0 : decode cd_H_head 0 = .ok (.aload_n 0, 1) := by decide +kernel
theorem dc_H_head_1 : decode cd_H_head 1 = .ok (.iload_n 1, 1) := by decide +kernel
theorem dc_H_head_2 : decode cd_H_head 2 = .ok (.invokevirtual 56, 3) := by decide +kernel
theorem dc_H_head_5 : decode cd_H_head 5 = .ok (.aload_n 0, 1) := by decide +kernel
theorem dc_H_head_6 : decode cd_H_head 6 = .ok (.getfield 49, 3) := by decide +kernel
theorem dc_H_head_9 : decode cd_H_head 9 = .ok (.iload_n 1, 1) := by decide +kernel
theorem dc_H_head_10 : decode cd_H_head 10 = .ok (.aaload, 1) := by decide +kernel
theorem dc_H_head_11 : decode cd_H_head 11 = .ok (.getfield 126, 3) := by decide +kernel
theorem dc_H_head_14 : decode cd_H_head 14 = .ok (.getfield 43, 3) := by decide +kernel
theorem dc_H_head_17 : decode cd_H_head 17 = .ok (.ireturn, 1) := by decide +kernel
theorem dc_H_used_0 : decode cd_H_used 0 = .ok (.iconst 0, 1) := by decide +kernel
theorem dc_H_used_1 : decode cd_H_used 1 = .ok (.istore_n 1, 1) := by decide +kernel
theorem dc_H_used_2 : decode cd_H_used 2 = .ok (.aload_n 0, 1) := by decide +kernel
theorem dc_H_used_3 : decode cd_H_used 3 = .ok (.getfield 34, 3) := by decide +kernel
theorem dc_H_used_6 : decode cd_H_used 6 = .ok (.astore_n 2, 1) := by decide +kernel
theorem dc_H_used_7 : decode cd_H_used 7 = .ok (.aload_n 2, 1) := by decide +kernel
theorem dc_H_used_8 : decode cd_H_used 8 = .ok (.arraylength, 1) := by decide +kernel
theorem dc_H_used_9 : decode cd_H_used 9 = .ok (.istore_n 3, 1) := by decide +kernel
theorem dc_H_used_10 : decode cd_H_used 10 = .ok (.iconst 0, 1) := by decide +kernel
theorem dc_H_used_11 : decode cd_H_used 11 = .ok (.istore 4, 2) := by decide +kernel
theorem dc_H_used_13 : decode cd_H_used 13 = .ok (.iload 4, 2) := by decide +kernel
theorem dc_H_used_15 : decode cd_H_used 15 = .ok (.iload_n 3, 1) := by decide +kernel
theorem dc_H_used_16 : decode cd_H_used 16 = .ok (.if_icmp .ge 26, 3) := by decide +kernel
theorem dc_H_used_19 : decode cd_H_used 19 = .ok (.aload_n 2, 1) := by decide +kernel
theorem dc_H_used_20 : decode cd_H_used 20 = .ok (.iload 4, 2) := by decide +kernel
theorem dc_H_used_22 : decode cd_H_used 22 = .ok (.aaload, 1) := by decide +kernel
theorem dc_H_used_23 : decode cd_H_used 23 = .ok (.astore 5, 2) := by decide +kernel
theorem dc_H_used_25 : decode cd_H_used 25 = .ok (.aload 5, 2) := by decide +kernel
theorem dc_H_used_27 : decode cd_H_used 27 = .ok (.getfield 39, 3) := by decide +kernel
theorem dc_H_used_30 : decode cd_H_used 30 = .ok (.ifCond .eq 6, 3) := by decide +kernel
theorem dc_H_used_33 : decode cd_H_used 33 = .ok (.iinc 1 1, 3) := by decide +kernel
theorem dc_H_used_36 : decode cd_H_used 36 = .ok (.iinc 4 1, 3) := by decide +kernel
theorem dc_H_used_39 : decode cd_H_used 39 = .ok (.goto (-26), 3) := by decide +kernel
theorem dc_H_used_42 : decode cd_H_used 42 = .ok (.iload_n 1, 1) := by decide +kernel
theorem dc_H_used_43 : decode cd_H_used 43 = .ok (.ireturn, 1) := by decide +kernel
theorem dc_H_cut_0 : decode cd_H_cut 0 = .ok (.aload_n 0, 1) := by decide +kernel
theorem dc_H_cut_1 : decode cd_H_cut 1 = .ok (.aload_n 0, 1) := by decide +kernel
theorem dc_H_cut_2 : decode cd_H_cut 2 = .ok (.invokevirtual 130, 3) := by decide +kernel
theorem dc_H_cut_5 : decode cd_H_cut 5 = .ok (.invokevirtual 134, 3) := by decide +kernel
theorem dc_H_cut_8 : decode cd_H_cut 8 = .ok (.aload_n 0, 1) := by decide +kernel
theorem dc_H_cut_9 : decode cd_H_cut 9 = .ok (.aload_n 0, 1) := by decide +kernel
theorem dc_H_cut_10 : decode cd_H_cut 10 = .ok (.invokevirtual 138, 3) := by decide +kernel
theorem dc_H_cut_13 : decode cd_H_cut 13 = .ok (.invokevirtual 141, 3) := by decide +kernel
theorem dc_H_cut_16 : decode cd_H_cut 16 = .ok (.ireturn, 1) := by decide +kernel
theorem dc_H_peek_0 : decode cd_H_peek 0 = .ok (.iload_n 1, 1) := by decide +kernel
theorem dc_H_peek_1 : decode cd_H_peek 1 = .ok (.invokestatic 60, 3) := by decide +kernel
theorem dc_H_peek_4 : decode cd_H_peek 4 = .ok (.aload_n 0, 1) := by decide +kernel
theorem dc_H_peek_5 : decode cd_H_peek 5 = .ok (.getfield 26, 3) := by decide +kernel
theorem dc_H_peek_8 : decode cd_H_peek 8 = .ok (.aload_n 0, 1) := by decide +kernel
theorem dc_H_peek_9 : decode cd_H_peek 9 = .ok (.getfield 22, 3) := by decide +kernel
theorem dc_H_peek_12 : decode cd_H_peek 12 = .ok (.invokevirtual 144, 3) := by decide +kernel
theorem dc_H_peek_15 : decode cd_H_peek 15 = .ok (.aload_n 0, 1) := by decide +kernel
theorem dc_H_peek_16 : decode cd_H_peek 16 = .ok (.getfield 26, 3) := by decide +kernel
theorem dc_H_peek_19 : decode cd_H_peek 19 = .ok (.iload_n 1, 1) := by decide +kernel
theorem dc_H_peek_20 : decode cd_H_peek 20 = .ok (.iload_n 2, 1) := by decide +kernel
theorem dc_H_peek_21 : decode cd_H_peek 21 = .ok (.iload_n 3, 1) := by decide +kernel
theorem dc_H_peek_22 : decode cd_H_peek 22 = .ok (.invokevirtual 150, 3) := by decide +kernel
theorem dc_H_peek_25 : decode cd_H_peek 25 = .ok (.ireturn, 1) := by decide +kernel
theorem dc_H_plain_0 : decode cd_H_plain 0 = .ok (.iload_n 1, 1) := by decide +kernel
theorem dc_H_plain_1 : decode cd_H_plain 1 = .ok (.invokestatic 60, 3) := by decide +kernel
theorem dc_H_plain_4 : decode cd_H_plain 4 = .ok (.aload_n 0, 1) := by decide +kernel
theorem dc_H_plain_5 : decode cd_H_plain 5 = .ok (.getfield 29, 3) := by decide +kernel
theorem dc_H_plain_8 : decode cd_H_plain 8 = .ok (.iload_n 1, 1) := by decide +kernel
theorem dc_H_plain_9 : decode cd_H_plain 9 = .ok (.iload_n 2, 1) := by decide +kernel
theorem dc_H_plain_10 : decode cd_H_plain 10 = .ok (.iload_n 3, 1) := by decide +kernel
theorem dc_H_plain_11 : decode cd_H_plain 11 = .ok (.invokevirtual 150, 3) := by decide +kernel
theorem dc_H_plain_14 : decode cd_H_plain 14 = .ok (.ireturn, 1) := by decide +kernel
theorem dc_H_newPlain_0 : decode cd_H_newPlain 0 = .ok (.iload_n 0, 1) := by decide +kernel
theorem dc_H_newPlain_1 : decode cd_H_newPlain 1 = .ok (.tableswitch 51 0 2 #[27, 35, 43], 27) := by decide +kernel
theorem dc_H_newPlain_28 : decode cd_H_newPlain 28 = .ok (.new 154, 3) := by decide +kernel
theorem dc_H_newPlain_31 : decode cd_H_newPlain 31 = .ok (.dup, 1) := by decide +kernel
theorem dc_H_newPlain_32 : decode cd_H_newPlain 32 = .ok (.invokespecial 156, 3) := by decide +kernel
theorem dc_H_newPlain_35 : decode cd_H_newPlain 35 = .ok (.areturn, 1) := by decide +kernel
theorem dc_H_newPlain_36 : decode cd_H_newPlain 36 = .ok (.new 157, 3) := by decide +kernel
theorem dc_H_newPlain_39 : decode cd_H_newPlain 39 = .ok (.dup, 1) := by decide +kernel
theorem dc_H_newPlain_40 : decode cd_H_newPlain 40 = .ok (.invokespecial 159, 3) := by decide +kernel
theorem dc_H_newPlain_43 : decode cd_H_newPlain 43 = .ok (.areturn, 1) := by decide +kernel
theorem dc_H_newPlain_44 : decode cd_H_newPlain 44 = .ok (.new 160, 3) := by decide +kernel
theorem dc_H_newPlain_47 : decode cd_H_newPlain 47 = .ok (.dup, 1) := by decide +kernel
theorem dc_H_newPlain_48 : decode cd_H_newPlain 48 = .ok (.invokespecial 162, 3) := by decide +kernel
theorem dc_H_newPlain_51 : decode cd_H_newPlain 51 = .ok (.areturn, 1) := by decide +kernel
theorem dc_H_newPlain_52 : decode cd_H_newPlain 52 = .ok (.new 163, 3) := by decide +kernel
theorem dc_H_newPlain_55 : decode cd_H_newPlain 55 = .ok (.dup, 1) := by decide +kernel
theorem dc_H_newPlain_56 : decode cd_H_newPlain 56 = .ok (.invokespecial 165, 3) := by decide +kernel
theorem dc_H_newPlain_59 : decode cd_H_newPlain 59 = .ok (.areturn, 1) := by decide +kernel
theorem dc_H_checkProcess_0 : decode cd_H_checkProcess 0 = .ok (.iload_n 1, 1) := by decide +kernel
theorem dc_H_checkProcess_1 : decode cd_H_checkProcess 1 = .ok (.ifCond .lt 12, 3) := by decide +kernel
theorem dc_H_checkProcess_4 : decode cd_H_checkProcess 4 = .ok (.iload_n 1, 1) := by decide +kernel
theorem dc_H_checkProcess_5 : decode cd_H_checkProcess 5 = .ok (.aload_n 0, 1) := by decide +kernel
theorem dc_H_checkProcess_6 : decode cd_H_checkProcess 6 = .ok (.getfield 49, 3) := by decide +kernel
theorem dc_H_checkProcess_9 : decode cd_H_checkProcess 9 = .ok (.arraylength, 1) := by decide +kernel
theorem dc_H_checkProcess_10 : decode cd_H_checkProcess 10 = .ok (.if_icmp .lt 13, 3) := by decide +kernel
theorem dc_H_checkProcess_13 : decode cd_H_checkProcess 13 = .ok (.new 166, 3) := by decide +kernel
theorem dc_H_checkProcess_16 : decode cd_H_checkProcess 16 = .ok (.dup, 1) := by decide +kernel
theorem dc_H_checkProcess_17 : decode cd_H_checkProcess 17 = .ok (.ldc 168, 2) := by decide +kernel
theorem dc_H_checkProcess_19 : decode cd_H_checkProcess 19 = .ok (.invokespecial 170, 3) := by decide +kernel
theorem dc_H_checkProcess_22 : decode cd_H_checkProcess 22 = .ok (.athrow, 1) := by decide +kernel
theorem dc_H_checkProcess_23 : decode cd_H_checkProcess 23 = .ok (.return_, 1) := by decide +kernel
theorem dc_H_checkOperation_0 : decode cd_H_checkOperation 0 = .ok (.iload_n 0, 1) := by decide +kernel
theorem dc_H_checkOperation_1 : decode cd_H_checkOperation 1 = .ok (.ifCond .lt 8, 3) := by decide +kernel
theorem dc_H_checkOperation_4 : decode cd_H_checkOperation 4 = .ok (.iload_n 0, 1) := by decide +kernel
theorem dc_H_checkOperation_5 : decode cd_H_checkOperation 5 = .ok (.iconst 2, 1) := by decide +kernel
theorem dc_H_checkOperation_6 : decode cd_H_checkOperation 6 = .ok (.if_icmp .le 13, 3) := by decide +kernel
theorem dc_H_checkOperation_9 : decode cd_H_checkOperation 9 = .ok (.new 86, 3) := by decide +kernel
theorem dc_H_checkOperation_12 : decode cd_H_checkOperation 12 = .ok (.dup, 1) := by decide +kernel
theorem dc_H_checkOperation_13 : decode cd_H_checkOperation 13 = .ok (.ldc 171, 2) := by decide +kernel
theorem dc_H_checkOperation_15 : decode cd_H_checkOperation 15 = .ok (.invokespecial 90, 3) := by decide +kernel
theorem dc_H_checkOperation_18 : decode cd_H_checkOperation 18 = .ok (.athrow, 1) := by decide +kernel
theorem dc_H_checkOperation_19 : decode cd_H_checkOperation 19 = .ok (.return_, 1) := by decide +kernel
theorem dc_H_advance_0 : decode cd_H_advance 0 = .ok (.aload_n 1, 1) := by decide +kernel
theorem dc_H_advance_1 : decode cd_H_advance 1 = .ok (.getfield 63, 3) := by decide +kernel
theorem dc_H_advance_4 : decode cd_H_advance 4 = .ok (.tableswitch 116 0 7 #[48, 54, 61, 83, 90, 97, 104, 110], 48) := by decide +kernel
theorem dc_H_advance_52 : decode cd_H_advance 52 = .ok (.aload_n 0, 1) := by decide +kernel
theorem dc_H_advance_53 : decode cd_H_advance 53 = .ok (.aload_n 1, 1) := by decide +kernel
theorem dc_H_advance_54 : decode cd_H_advance 54 = .ok (.invokevirtual 173, 3) := by decide +kernel
theorem dc_H_advance_57 : decode cd_H_advance 57 = .ok (.ireturn, 1) := by decide +kernel
theorem dc_H_advance_58 : decode cd_H_advance 58 = .ok (.aload_n 0, 1) := by decide +kernel
theorem dc_H_advance_59 : decode cd_H_advance 59 = .ok (.aload_n 1, 1) := by decide +kernel
theorem dc_H_advance_60 : decode cd_H_advance 60 = .ok (.invokevirtual 176, 3) := by decide +kernel
theorem dc_H_advance_63 : decode cd_H_advance 63 = .ok (.iconst 0, 1) := by decide +kernel
theorem dc_H_advance_64 : decode cd_H_advance 64 = .ok (.ireturn, 1) := by decide +kernel
theorem dc_H_advance_65 : decode cd_H_advance 65 = .ok (.aload_n 1, 1) := by decide +kernel
theorem dc_H_advance_66 : decode cd_H_advance 66 = .ok (.aload_n 1, 1) := by decide +kernel
theorem dc_H_advance_67 : decode cd_H_advance 67 = .ok (.getfield 180, 3) := by decide +kernel
theorem dc_H_advance_70 : decode cd_H_advance 70 = .ok (.getfield 43, 3) := by decide +kernel
theorem dc_H_advance_73 : decode cd_H_advance 73 = .ok (.ifCond .le 8, 3) := by decide +kernel
theorem dc_H_advance_76 : decode cd_H_advance 76 = .ok (.bipush 7, 2) := by decide +kernel
theorem dc_H_advance_78 : decode cd_H_advance 78 = .ok (.goto 4, 3) := by decide +kernel
theorem dc_H_advance_81 : decode cd_H_advance 81 = .ok (.iconst 3, 1) := by decide +kernel
theorem dc_H_advance_82 : decode cd_H_advance 82 = .ok (.putfield 63, 3) := by decide +kernel
theorem dc_H_advance_85 : decode cd_H_advance 85 = .ok (.iconst 0, 1) := by decide +kernel
theorem dc_H_advance_86 : decode cd_H_advance 86 = .ok (.ireturn, 1) := by decide +kernel
theorem dc_H_advance_87 : decode cd_H_advance 87 = .ok (.aload_n 0, 1) := by decide +kernel
theorem dc_H_advance_88 : decode cd_H_advance 88 = .ok (.aload_n 1, 1) := by decide +kernel
theorem dc_H_advance_89 : decode cd_H_advance 89 = .ok (.invokevirtual 183, 3) := by decide +kernel
theorem dc_H_advance_92 : decode cd_H_advance 92 = .ok (.iconst 0, 1) := by decide +kernel
theorem dc_H_advance_93 : decode cd_H_advance 93 = .ok (.ireturn, 1) := by decide +kernel
theorem dc_H_advance_94 : decode cd_H_advance 94 = .ok (.aload_n 0, 1) := by decide +kernel
theorem dc_H_advance_95 : decode cd_H_advance 95 = .ok (.aload_n 1, 1) := by decide +kernel
theorem dc_H_advance_96 : decode cd_H_advance 96 = .ok (.invokevirtual 186, 3) := by decide +kernel
theorem dc_H_advance_99 : decode cd_H_advance 99 = .ok (.iconst 0, 1) := by decide +kernel
theorem dc_H_advance_100 : decode cd_H_advance 100 = .ok (.ireturn, 1) := by decide +kernel
theorem dc_H_advance_101 : decode cd_H_advance 101 = .ok (.aload_n 0, 1) := by decide +kernel
theorem dc_H_advance_102 : decode cd_H_advance 102 = .ok (.aload_n 1, 1) := by decide +kernel
theorem dc_H_advance_103 : decode cd_H_advance 103 = .ok (.invokevirtual 189, 3) := by decide +kernel
theorem dc_H_advance_106 : decode cd_H_advance 106 = .ok (.iconst 0, 1) := by decide +kernel
theorem dc_H_advance_107 : decode cd_H_advance 107 = .ok (.ireturn, 1) := by decide +kernel
theorem dc_H_advance_108 : decode cd_H_advance 108 = .ok (.aload_n 1, 1) := by decide +kernel
theorem dc_H_advance_109 : decode cd_H_advance 109 = .ok (.invokestatic 192, 3) := by decide +kernel
theorem dc_H_advance_112 : decode cd_H_advance 112 = .ok (.iconst 0, 1) := by decide +kernel
theorem dc_H_advance_113 : decode cd_H_advance 113 = .ok (.ireturn, 1) := by decide +kernel
theorem dc_H_advance_114 : decode cd_H_advance 114 = .ok (.aload_n 1, 1) := by decide +kernel
theorem dc_H_advance_115 : decode cd_H_advance 115 = .ok (.invokestatic 195, 3) := by decide +kernel
theorem dc_H_advance_118 : decode cd_H_advance 118 = .ok (.iconst 1, 1) := by decide +kernel
theorem dc_H_advance_119 : decode cd_H_advance 119 = .ok (.ireturn, 1) := by decide +kernel
theorem dc_H_advance_120 : decode cd_H_advance 120 = .ok (.iconst 2, 1) := by decide +kernel
theorem dc_H_advance_121 : decode cd_H_advance 121 = .ok (.ireturn, 1) := by decide +kernel
theorem dc_H_announce_0 : decode cd_H_announce 0 = .ok (.aload_n 0, 1) := by decide +kernel
theorem dc_H_announce_1 : decode cd_H_announce 1 = .ok (.invokevirtual 198, 3) := by decide +kernel
theorem dc_H_announce_4 : decode cd_H_announce 4 = .ok (.astore_n 2, 1) := by decide +kernel
theorem dc_H_announce_5 : decode cd_H_announce 5 = .ok (.aload_n 2, 1) := by decide +kernel
theorem dc_H_announce_6 : decode cd_H_announce 6 = .ok (.ifnonnull 5, 3) := by decide +kernel
theorem dc_H_announce_9 : decode cd_H_announce 9 = .ok (.iconst 3, 1) := by decide +kernel
theorem dc_H_announce_10 : decode cd_H_announce 10 = .ok (.ireturn, 1) := by decide +kernel
theorem dc_H_announce_11 : decode cd_H_announce 11 = .ok (.aload_n 2, 1) := by decide +kernel
theorem dc_H_announce_12 : decode cd_H_announce 12 = .ok (.aload_n 1, 1) := by decide +kernel
theorem dc_H_announce_13 : decode cd_H_announce 13 = .ok (.invokevirtual 201, 3) := by decide +kernel
theorem dc_H_announce_16 : decode cd_H_announce 16 = .ok (.aload_n 1, 1) := by decide +kernel
theorem dc_H_announce_17 : decode cd_H_announce 17 = .ok (.aload_n 2, 1) := by decide +kernel
theorem dc_H_announce_18 : decode cd_H_announce 18 = .ok (.putfield 180, 3) := by decide +kernel
theorem dc_H_announce_21 : decode cd_H_announce 21 = .ok (.aload_n 1, 1) := by decide +kernel
theorem dc_H_announce_22 : decode cd_H_announce 22 = .ok (.aload_n 2, 1) := by decide +kernel
theorem dc_H_announce_23 : decode cd_H_announce 23 = .ok (.putfield 204, 3) := by decide +kernel
theorem dc_H_announce_26 : decode cd_H_announce 26 = .ok (.aload_n 1, 1) := by decide +kernel
theorem dc_H_announce_27 : decode cd_H_announce 27 = .ok (.aload_n 1, 1) := by decide +kernel
theorem dc_H_announce_28 : decode cd_H_announce 28 = .ok (.getfield 126, 3) := by decide +kernel
theorem dc_H_announce_31 : decode cd_H_announce 31 = .ok (.putfield 207, 3) := by decide +kernel
theorem dc_H_announce_34 : decode cd_H_announce 34 = .ok (.aload_n 1, 1) := by decide +kernel
theorem dc_H_announce_35 : decode cd_H_announce 35 = .ok (.iconst 0, 1) := by decide +kernel
theorem dc_H_announce_36 : decode cd_H_announce 36 = .ok (.putfield 210, 3) := by decide +kernel
theorem dc_H_announce_39 : decode cd_H_announce 39 = .ok (.aload_n 1, 1) := by decide +kernel
theorem dc_H_announce_40 : decode cd_H_announce 40 = .ok (.iconst 1, 1) := by decide +kernel
theorem dc_H_announce_41 : decode cd_H_announce 41 = .ok (.putfield 63, 3) := by decide +kernel
theorem dc_H_announce_44 : decode cd_H_announce 44 = .ok (.iconst 0, 1) := by decide +kernel
theorem dc_H_announce_45 : decode cd_H_announce 45 = .ok (.ireturn, 1) := by decide +kernel
theorem dc_H_look_0 : decode cd_H_look 0 = .ok (.aload_n 1, 1) := by decide +kernel
theorem dc_H_look_1 : decode cd_H_look 1 = .ok (.getfield 210, 3) := by decide +kernel
theorem dc_H_look_4 : decode cd_H_look 4 = .ok (.aload_n 0, 1) := by decide +kernel
theorem dc_H_look_5 : decode cd_H_look 5 = .ok (.getfield 49, 3) := by decide +kernel
theorem dc_H_look_8 : decode cd_H_look 8 = .ok (.arraylength, 1) := by decide +kernel
theorem dc_H_look_9 : decode cd_H_look 9 = .ok (.if_icmp .ge 35, 3) := by decide +kernel
theorem dc_H_look_12 : decode cd_H_look 12 = .ok (.aload_n 0, 1) := by decide +kernel
theorem dc_H_look_13 : decode cd_H_look 13 = .ok (.getfield 49, 3) := by decide +kernel
theorem dc_H_look_16 : decode cd_H_look 16 = .ok (.aload_n 1, 1) := by decide +kernel
theorem dc_H_look_17 : decode cd_H_look 17 = .ok (.getfield 210, 3) := by decide +kernel
theorem dc_H_look_20 : decode cd_H_look 20 = .ok (.aaload, 1) := by decide +kernel
theorem dc_H_look_21 : decode cd_H_look 21 = .ok (.getfield 126, 3) := by decide +kernel
theorem dc_H_look_24 : decode cd_H_look 24 = .ok (.astore_n 2, 1) := by decide +kernel
theorem dc_H_look_25 : decode cd_H_look 25 = .ok (.aload_n 2, 1) := by decide +kernel
theorem dc_H_look_26 : decode cd_H_look 26 = .ok (.getfield 43, 3) := by decide +kernel
theorem dc_H_look_29 : decode cd_H_look 29 = .ok (.aload_n 1, 1) := by decide +kernel
theorem dc_H_look_30 : decode cd_H_look 30 = .ok (.getfield 207, 3) := by decide +kernel
theorem dc_H_look_33 : decode cd_H_look 33 = .ok (.getfield 43, 3) := by decide +kernel
theorem dc_H_look_36 : decode cd_H_look 36 = .ok (.if_icmp .le 8, 3) := by decide +kernel
theorem dc_H_look_39 : decode cd_H_look 39 = .ok (.aload_n 1, 1) := by decide +kernel
theorem dc_H_look_40 : decode cd_H_look 40 = .ok (.aload_n 2, 1) := by decide +kernel
theorem dc_H_look_41 : decode cd_H_look 41 = .ok (.putfield 207, 3) := by decide +kernel
theorem dc_H_look_44 : decode cd_H_look 44 = .ok (.aload_n 1, 1) := by decide +kernel
theorem dc_H_look_45 : decode cd_H_look 45 = .ok (.dup, 1) := by decide +kernel
theorem dc_H_look_46 : decode cd_H_look 46 = .ok (.getfield 210, 3) := by decide +kernel
theorem dc_H_look_49 : decode cd_H_look 49 = .ok (.iconst 1, 1) := by decide +kernel
theorem dc_H_look_50 : decode cd_H_look 50 = .ok (.iadd, 1) := by decide +kernel
theorem dc_H_look_51 : decode cd_H_look 51 = .ok (.putfield 210, 3) := by decide +kernel
theorem dc_H_look_54 : decode cd_H_look 54 = .ok (.aload_n 1, 1) := by decide +kernel
theorem dc_H_look_55 : decode cd_H_look 55 = .ok (.getfield 210, 3) := by decide +kernel
theorem dc_H_look_58 : decode cd_H_look 58 = .ok (.aload_n 0, 1) := by decide +kernel
theorem dc_H_look_59 : decode cd_H_look 59 = .ok (.getfield 49, 3) := by decide +kernel
theorem dc_H_look_62 : decode cd_H_look 62 = .ok (.arraylength, 1) := by decide +kernel
theorem dc_H_look_63 : decode cd_H_look 63 = .ok (.if_icmp .lt 8, 3) := by decide +kernel
theorem dc_H_look_66 : decode cd_H_look 66 = .ok (.aload_n 1, 1) := by decide +kernel
theorem dc_H_look_67 : decode cd_H_look 67 = .ok (.iconst 2, 1) := by decide +kernel
theorem dc_H_look_68 : decode cd_H_look 68 = .ok (.putfield 63, 3) := by decide +kernel
theorem dc_H_look_71 : decode cd_H_look 71 = .ok (.return_, 1) := by decide +kernel
theorem dc_H_choose_0 : decode cd_H_choose 0 = .ok (.aload_n 1, 1) := by decide +kernel
theorem dc_H_choose_1 : decode cd_H_choose 1 = .ok (.getfield 207, 3) := by decide +kernel
theorem dc_H_choose_4 : decode cd_H_choose 4 = .ok (.getfield 43, 3) := by decide +kernel
theorem dc_H_choose_7 : decode cd_H_choose 7 = .ok (.iconst 1, 1) := by decide +kernel
theorem dc_H_choose_8 : decode cd_H_choose 8 = .ok (.iadd, 1) := by decide +kernel
theorem dc_H_choose_9 : decode cd_H_choose 9 = .ok (.istore_n 2, 1) := by decide +kernel
theorem dc_H_choose_10 : decode cd_H_choose 10 = .ok (.aload_n 0, 1) := by decide +kernel
theorem dc_H_choose_11 : decode cd_H_choose 11 = .ok (.getfield 49, 3) := by decide +kernel
theorem dc_H_choose_14 : decode cd_H_choose 14 = .ok (.iload_n 2, 1) := by decide +kernel
theorem dc_H_choose_15 : decode cd_H_choose 15 = .ok (.aload_n 0, 1) := by decide +kernel
theorem dc_H_choose_16 : decode cd_H_choose 16 = .ok (.getfield 49, 3) := by decide +kernel
theorem dc_H_choose_19 : decode cd_H_choose 19 = .ok (.arraylength, 1) := by decide +kernel
theorem dc_H_choose_20 : decode cd_H_choose 20 = .ok (.invokestatic 213, 3) := by decide +kernel
theorem dc_H_choose_23 : decode cd_H_choose 23 = .ok (.aaload, 1) := by decide +kernel
theorem dc_H_choose_24 : decode cd_H_choose 24 = .ok (.getfield 204, 3) := by decide +kernel
theorem dc_H_choose_27 : decode cd_H_choose 27 = .ok (.astore_n 3, 1) := by decide +kernel
theorem dc_H_choose_28 : decode cd_H_choose 28 = .ok (.aload_n 1, 1) := by decide +kernel
theorem dc_H_choose_29 : decode cd_H_choose 29 = .ok (.aload_n 3, 1) := by decide +kernel
theorem dc_H_choose_30 : decode cd_H_choose 30 = .ok (.ifnull 14, 3) := by decide +kernel
theorem dc_H_choose_33 : decode cd_H_choose 33 = .ok (.aload_n 3, 1) := by decide +kernel
theorem dc_H_choose_34 : decode cd_H_choose 34 = .ok (.getfield 43, 3) := by decide +kernel
theorem dc_H_choose_37 : decode cd_H_choose 37 = .ok (.ifCond .ne 7, 3) := by decide +kernel
theorem dc_H_choose_40 : decode cd_H_choose 40 = .ok (.aload_n 3, 1) := by decide +kernel
theorem dc_H_choose_41 : decode cd_H_choose 41 = .ok (.goto 7, 3) := by decide +kernel
theorem dc_H_choose_44 : decode cd_H_choose 44 = .ok (.aload_n 1, 1) := by decide +kernel
theorem dc_H_choose_45 : decode cd_H_choose 45 = .ok (.getfield 180, 3) := by decide +kernel
theorem dc_H_choose_48 : decode cd_H_choose 48 = .ok (.putfield 216, 3) := by decide +kernel
theorem dc_H_choose_51 : decode cd_H_choose 51 = .ok (.aload_n 1, 1) := by decide +kernel
theorem dc_H_choose_52 : decode cd_H_choose 52 = .ok (.iconst 4, 1) := by decide +kernel
theorem dc_H_choose_53 : decode cd_H_choose 53 = .ok (.putfield 63, 3) := by decide +kernel
theorem dc_H_choose_56 : decode cd_H_choose 56 = .ok (.return_, 1) := by decide +kernel
theorem dc_H_propose_0 : decode cd_H_propose 0 = .ok (.aload_n 1, 1) := by decide +kernel
theorem dc_H_propose_1 : decode cd_H_propose 1 = .ok (.getfield 207, 3) := by decide +kernel
theorem dc_H_propose_4 : decode cd_H_propose 4 = .ok (.getfield 219, 3) := by decide +kernel
theorem dc_H_propose_7 : decode cd_H_propose 7 = .ok (.ifnonnull 14, 3) := by decide +kernel
theorem dc_H_propose_10 : decode cd_H_propose 10 = .ok (.aload_n 1, 1) := by decide +kernel
theorem dc_H_propose_11 : decode cd_H_propose 11 = .ok (.getfield 207, 3) := by decide +kernel
theorem dc_H_propose_14 : decode cd_H_propose 14 = .ok (.aload_n 1, 1) := by decide +kernel
theorem dc_H_propose_15 : decode cd_H_propose 15 = .ok (.getfield 216, 3) := by decide +kernel
theorem dc_H_propose_18 : decode cd_H_propose 18 = .ok (.putfield 219, 3) := by decide +kernel
theorem dc_H_propose_21 : decode cd_H_propose 21 = .ok (.aload_n 1, 1) := by decide +kernel
theorem dc_H_propose_22 : decode cd_H_propose 22 = .ok (.aload_n 1, 1) := by decide +kernel
theorem dc_H_propose_23 : decode cd_H_propose 23 = .ok (.getfield 207, 3) := by decide +kernel
theorem dc_H_propose_26 : decode cd_H_propose 26 = .ok (.getfield 219, 3) := by decide +kernel
theorem dc_H_propose_29 : decode cd_H_propose 29 = .ok (.putfield 216, 3) := by decide +kernel
theorem dc_H_propose_32 : decode cd_H_propose 32 = .ok (.aload_n 1, 1) := by decide +kernel
theorem dc_H_propose_33 : decode cd_H_propose 33 = .ok (.iconst 5, 1) := by decide +kernel
theorem dc_H_propose_34 : decode cd_H_propose 34 = .ok (.putfield 63, 3) := by decide +kernel
theorem dc_H_propose_37 : decode cd_H_propose 37 = .ok (.return_, 1) := by decide +kernel
theorem dc_H_giveNumber_0 : decode cd_H_giveNumber 0 = .ok (.aload_n 1, 1) := by decide +kernel
theorem dc_H_giveNumber_1 : decode cd_H_giveNumber 1 = .ok (.getfield 216, 3) := by decide +kernel
theorem dc_H_giveNumber_4 : decode cd_H_giveNumber 4 = .ok (.astore_n 2, 1) := by decide +kernel
theorem dc_H_giveNumber_5 : decode cd_H_giveNumber 5 = .ok (.aload_n 2, 1) := by decide +kernel
theorem dc_H_giveNumber_6 : decode cd_H_giveNumber 6 = .ok (.getfield 43, 3) := by decide +kernel
theorem dc_H_giveNumber_9 : decode cd_H_giveNumber 9 = .ok (.ifCond .ne 26, 3) := by decide +kernel
theorem dc_H_giveNumber_12 : decode cd_H_giveNumber 12 = .ok (.aload_n 2, 1) := by decide +kernel
theorem dc_H_giveNumber_13 : decode cd_H_giveNumber 13 = .ok (.aload_n 0, 1) := by decide +kernel
theorem dc_H_giveNumber_14 : decode cd_H_giveNumber 14 = .ok (.getfield 22, 3) := by decide +kernel
theorem dc_H_giveNumber_17 : decode cd_H_giveNumber 17 = .ok (.aload_n 2, 1) := by decide +kernel
theorem dc_H_giveNumber_18 : decode cd_H_giveNumber 18 = .ok (.getfield 222, 3) := by decide +kernel
theorem dc_H_giveNumber_21 : decode cd_H_giveNumber 21 = .ok (.aload_n 2, 1) := by decide +kernel
theorem dc_H_giveNumber_22 : decode cd_H_giveNumber 22 = .ok (.getfield 223, 3) := by decide +kernel
theorem dc_H_giveNumber_25 : decode cd_H_giveNumber 25 = .ok (.aload_n 2, 1) := by decide +kernel
theorem dc_H_giveNumber_26 : decode cd_H_giveNumber 26 = .ok (.getfield 224, 3) := by decide +kernel
theorem dc_H_giveNumber_29 : decode cd_H_giveNumber 29 = .ok (.invokevirtual 150, 3) := by decide +kernel
theorem dc_H_giveNumber_32 : decode cd_H_giveNumber 32 = .ok (.putfield 225, 3) := by decide +kernel
theorem dc_H_giveNumber_35 : decode cd_H_giveNumber 35 = .ok (.aload_n 2, 1) := by decide +kernel
theorem dc_H_giveNumber_36 : decode cd_H_giveNumber 36 = .ok (.aload_n 1, 1) := by decide +kernel
theorem dc_H_giveNumber_37 : decode cd_H_giveNumber 37 = .ok (.getfield 207, 3) := by decide +kernel
theorem dc_H_giveNumber_40 : decode cd_H_giveNumber 40 = .ok (.getfield 43, 3) := by decide +kernel
theorem dc_H_giveNumber_43 : decode cd_H_giveNumber 43 = .ok (.iconst 1, 1) := by decide +kernel
theorem dc_H_giveNumber_44 : decode cd_H_giveNumber 44 = .ok (.iadd, 1) := by decide +kernel
theorem dc_H_giveNumber_45 : decode cd_H_giveNumber 45 = .ok (.putfield 43, 3) := by decide +kernel
theorem dc_H_giveNumber_48 : decode cd_H_giveNumber 48 = .ok (.aload_n 1, 1) := by decide +kernel
theorem dc_H_giveNumber_49 : decode cd_H_giveNumber 49 = .ok (.bipush 6, 2) := by decide +kernel
theorem dc_H_giveNumber_51 : decode cd_H_giveNumber 51 = .ok (.putfield 63, 3) := by decide +kernel
theorem dc_H_giveNumber_54 : decode cd_H_giveNumber 54 = .ok (.return_, 1) := by decide +kernel
theorem dc_H_move_0 : decode cd_H_move 0 = .ok (.aload_n 0, 1) := by decide +kernel
theorem dc_H_move_1 : decode cd_H_move 1 = .ok (.aload_n 0, 1) := by decide +kernel
theorem dc_H_move_2 : decode cd_H_move 2 = .ok (.getfield 216, 3) := by decide +kernel
theorem dc_H_move_5 : decode cd_H_move 5 = .ok (.putfield 126, 3) := by decide +kernel
theorem dc_H_move_8 : decode cd_H_move 8 = .ok (.aload_n 0, 1) := by decide +kernel
theorem dc_H_move_9 : decode cd_H_move 9 = .ok (.aload_n 0, 1) := by decide +kernel
theorem dc_H_move_10 : decode cd_H_move 10 = .ok (.getfield 216, 3) := by decide +kernel
theorem dc_H_move_13 : decode cd_H_move 13 = .ok (.putfield 207, 3) := by decide +kernel
theorem dc_H_move_16 : decode cd_H_move 16 = .ok (.aload_n 0, 1) := by decide +kernel
theorem dc_H_move_17 : decode cd_H_move 17 = .ok (.iconst 2, 1) := by decide +kernel
theorem dc_H_move_18 : decode cd_H_move 18 = .ok (.putfield 63, 3) := by decide +kernel
theorem dc_H_move_21 : decode cd_H_move 21 = .ok (.return_, 1) := by decide +kernel
theorem dc_H_finish_0 : decode cd_H_finish 0 = .ok (.aload_n 0, 1) := by decide +kernel
theorem dc_H_finish_1 : decode cd_H_finish 1 = .ok (.aload_n 0, 1) := by decide +kernel
theorem dc_H_finish_2 : decode cd_H_finish 2 = .ok (.getfield 180, 3) := by decide +kernel
theorem dc_H_finish_5 : decode cd_H_finish 5 = .ok (.putfield 126, 3) := by decide +kernel
theorem dc_H_finish_8 : decode cd_H_finish 8 = .ok (.aload_n 0, 1) := by decide +kernel
theorem dc_H_finish_9 : decode cd_H_finish 9 = .ok (.aconst_null, 1) := by decide +kernel
theorem dc_H_finish_10 : decode cd_H_finish 10 = .ok (.putfield 204, 3) := by decide +kernel
theorem dc_H_finish_13 : decode cd_H_finish 13 = .ok (.aload_n 0, 1) := by decide +kernel
theorem dc_H_finish_14 : decode cd_H_finish 14 = .ok (.dup, 1) := by decide +kernel
theorem dc_H_finish_15 : decode cd_H_finish 15 = .ok (.getfield 92, 3) := by decide +kernel
theorem dc_H_finish_18 : decode cd_H_finish 18 = .ok (.iconst 1, 1) := by decide +kernel
theorem dc_H_finish_19 : decode cd_H_finish 19 = .ok (.iadd, 1) := by decide +kernel
theorem dc_H_finish_20 : decode cd_H_finish 20 = .ok (.putfield 92, 3) := by decide +kernel
theorem dc_H_finish_23 : decode cd_H_finish 23 = .ok (.aload_n 0, 1) := by decide +kernel
theorem dc_H_finish_24 : decode cd_H_finish 24 = .ok (.aload_n 0, 1) := by decide +kernel
theorem dc_H_finish_25 : decode cd_H_finish 25 = .ok (.getfield 180, 3) := by decide +kernel
theorem dc_H_finish_28 : decode cd_H_finish 28 = .ok (.getfield 225, 3) := by decide +kernel
theorem dc_H_finish_31 : decode cd_H_finish 31 = .ok (.putfield 97, 3) := by decide +kernel
theorem dc_H_finish_34 : decode cd_H_finish 34 = .ok (.aload_n 0, 1) := by decide +kernel
theorem dc_H_finish_35 : decode cd_H_finish 35 = .ok (.aload_n 0, 1) := by decide +kernel
theorem dc_H_finish_36 : decode cd_H_finish 36 = .ok (.getfield 180, 3) := by decide +kernel
theorem dc_H_finish_39 : decode cd_H_finish 39 = .ok (.getfield 43, 3) := by decide +kernel
theorem dc_H_finish_42 : decode cd_H_finish 42 = .ok (.putfield 100, 3) := by decide +kernel
theorem dc_H_finish_45 : decode cd_H_finish 45 = .ok (.aload_n 0, 1) := by decide +kernel
theorem dc_H_finish_46 : decode cd_H_finish 46 = .ok (.iconst (-1), 1) := by decide +kernel
theorem dc_H_finish_47 : decode cd_H_finish 47 = .ok (.putfield 63, 3) := by decide +kernel
theorem dc_H_finish_50 : decode cd_H_finish 50 = .ok (.return_, 1) := by decide +kernel
theorem dc_H_findFree_0 : decode cd_H_findFree 0 = .ok (.aload_n 0, 1) := by decide +kernel
theorem dc_H_findFree_1 : decode cd_H_findFree 1 = .ok (.getfield 34, 3) := by decide +kernel
theorem dc_H_findFree_4 : decode cd_H_findFree 4 = .ok (.astore_n 1, 1) := by decide +kernel
theorem dc_H_findFree_5 : decode cd_H_findFree 5 = .ok (.aload_n 1, 1) := by decide +kernel
theorem dc_H_findFree_6 : decode cd_H_findFree 6 = .ok (.arraylength, 1) := by decide +kernel
theorem dc_H_findFree_7 : decode cd_H_findFree 7 = .ok (.istore_n 2, 1) := by decide +kernel
theorem dc_H_findFree_8 : decode cd_H_findFree 8 = .ok (.iconst 0, 1) := by decide +kernel
theorem dc_H_findFree_9 : decode cd_H_findFree 9 = .ok (.istore_n 3, 1) := by decide +kernel
theorem dc_H_findFree_10 : decode cd_H_findFree 10 = .ok (.iload_n 3, 1) := by decide +kernel
theorem dc_H_findFree_11 : decode cd_H_findFree 11 = .ok (.iload_n 2, 1) := by decide +kernel
theorem dc_H_findFree_12 : decode cd_H_findFree 12 = .ok (.if_icmp .ge 25, 3) := by decide +kernel
theorem dc_H_findFree_15 : decode cd_H_findFree 15 = .ok (.aload_n 1, 1) := by decide +kernel
theorem dc_H_findFree_16 : decode cd_H_findFree 16 = .ok (.iload_n 3, 1) := by decide +kernel
theorem dc_H_findFree_17 : decode cd_H_findFree 17 = .ok (.aaload, 1) := by decide +kernel
theorem dc_H_findFree_18 : decode cd_H_findFree 18 = .ok (.astore 4, 2) := by decide +kernel
theorem dc_H_findFree_20 : decode cd_H_findFree 20 = .ok (.aload 4, 2) := by decide +kernel
theorem dc_H_findFree_22 : decode cd_H_findFree 22 = .ok (.getfield 39, 3) := by decide +kernel
theorem dc_H_findFree_25 : decode cd_H_findFree 25 = .ok (.ifCond .ne 6, 3) := by decide +kernel
theorem dc_H_findFree_28 : decode cd_H_findFree 28 = .ok (.aload 4, 2) := by decide +kernel
theorem dc_H_findFree_30 : decode cd_H_findFree 30 = .ok (.areturn, 1) := by decide +kernel
theorem dc_H_findFree_31 : decode cd_H_findFree 31 = .ok (.iinc 3 1, 3) := by decide +kernel
theorem dc_H_findFree_34 : decode cd_H_findFree 34 = .ok (.goto (-24), 3) := by decide +kernel
theorem dc_H_findFree_37 : decode cd_H_findFree 37 = .ok (.aconst_null, 1) := by decide +kernel
theorem dc_H_findFree_38 : decode cd_H_findFree 38 = .ok (.areturn, 1) := by decide +kernel
theorem dc_H_findOnLog_0 : decode cd_H_findOnLog 0 = .ok (.aload_n 0, 1) := by decide +kernel
theorem dc_H_findOnLog_1 : decode cd_H_findOnLog 1 = .ok (.getfield 34, 3) := by decide +kernel
theorem dc_H_findOnLog_4 : decode cd_H_findOnLog 4 = .ok (.astore_n 2, 1) := by decide +kernel
theorem dc_H_findOnLog_5 : decode cd_H_findOnLog 5 = .ok (.aload_n 2, 1) := by decide +kernel
theorem dc_H_findOnLog_6 : decode cd_H_findOnLog 6 = .ok (.arraylength, 1) := by decide +kernel
theorem dc_H_findOnLog_7 : decode cd_H_findOnLog 7 = .ok (.istore_n 3, 1) := by decide +kernel
theorem dc_H_findOnLog_8 : decode cd_H_findOnLog 8 = .ok (.iconst 0, 1) := by decide +kernel
theorem dc_H_findOnLog_9 : decode cd_H_findOnLog 9 = .ok (.istore 4, 2) := by decide +kernel
theorem dc_H_findOnLog_11 : decode cd_H_findOnLog 11 = .ok (.iload 4, 2) := by decide +kernel
theorem dc_H_findOnLog_13 : decode cd_H_findOnLog 13 = .ok (.iload_n 3, 1) := by decide +kernel
theorem dc_H_findOnLog_14 : decode cd_H_findOnLog 14 = .ok (.if_icmp .ge 35, 3) := by decide +kernel
theorem dc_H_findOnLog_17 : decode cd_H_findOnLog 17 = .ok (.aload_n 2, 1) := by decide +kernel
theorem dc_H_findOnLog_18 : decode cd_H_findOnLog 18 = .ok (.iload 4, 2) := by decide +kernel
theorem dc_H_findOnLog_20 : decode cd_H_findOnLog 20 = .ok (.aaload, 1) := by decide +kernel
theorem dc_H_findOnLog_21 : decode cd_H_findOnLog 21 = .ok (.astore 5, 2) := by decide +kernel
theorem dc_H_findOnLog_23 : decode cd_H_findOnLog 23 = .ok (.aload 5, 2) := by decide +kernel
theorem dc_H_findOnLog_25 : decode cd_H_findOnLog 25 = .ok (.invokevirtual 103, 3) := by decide +kernel
theorem dc_H_findOnLog_28 : decode cd_H_findOnLog 28 = .ok (.ifCond .eq 15, 3) := by decide +kernel
theorem dc_H_findOnLog_31 : decode cd_H_findOnLog 31 = .ok (.aload 5, 2) := by decide +kernel
theorem dc_H_findOnLog_33 : decode cd_H_findOnLog 33 = .ok (.getfield 43, 3) := by decide +kernel
theorem dc_H_findOnLog_36 : decode cd_H_findOnLog 36 = .ok (.iload_n 1, 1) := by decide +kernel
theorem dc_H_findOnLog_37 : decode cd_H_findOnLog 37 = .ok (.if_icmp .ne 6, 3) := by decide +kernel
theorem dc_H_findOnLog_40 : decode cd_H_findOnLog 40 = .ok (.aload 5, 2) := by decide +kernel
theorem dc_H_findOnLog_42 : decode cd_H_findOnLog 42 = .ok (.areturn, 1) := by decide +kernel
theorem dc_H_findOnLog_43 : decode cd_H_findOnLog 43 = .ok (.iinc 4 1, 3) := by decide +kernel
theorem dc_H_findOnLog_46 : decode cd_H_findOnLog 46 = .ok (.goto (-35), 3) := by decide +kernel
theorem dc_H_findOnLog_49 : decode cd_H_findOnLog 49 = .ok (.aconst_null, 1) := by decide +kernel
theorem dc_H_findOnLog_50 : decode cd_H_findOnLog 50 = .ok (.areturn, 1) := by decide +kernel
theorem dc_H_greatestHead_0 : decode cd_H_greatestHead 0 = .ok (.aload_n 0, 1) := by decide +kernel
theorem dc_H_greatestHead_1 : decode cd_H_greatestHead 1 = .ok (.getfield 49, 3) := by decide +kernel
theorem dc_H_greatestHead_4 : decode cd_H_greatestHead 4 = .ok (.iconst 0, 1) := by decide +kernel
theorem dc_H_greatestHead_5 : decode cd_H_greatestHead 5 = .ok (.aaload, 1) := by decide +kernel
theorem dc_H_greatestHead_6 : decode cd_H_greatestHead 6 = .ok (.getfield 126, 3) := by decide +kernel
theorem dc_H_greatestHead_9 : decode cd_H_greatestHead 9 = .ok (.astore_n 1, 1) := by decide +kernel
theorem dc_H_greatestHead_10 : decode cd_H_greatestHead 10 = .ok (.aload_n 0, 1) := by decide +kernel
theorem dc_H_greatestHead_11 : decode cd_H_greatestHead 11 = .ok (.getfield 49, 3) := by decide +kernel
theorem dc_H_greatestHead_14 : decode cd_H_greatestHead 14 = .ok (.astore_n 2, 1) := by decide +kernel
theorem dc_H_greatestHead_15 : decode cd_H_greatestHead 15 = .ok (.aload_n 2, 1) := by decide +kernel
theorem dc_H_greatestHead_16 : decode cd_H_greatestHead 16 = .ok (.arraylength, 1) := by decide +kernel
theorem dc_H_greatestHead_17 : decode cd_H_greatestHead 17 = .ok (.istore_n 3, 1) := by decide +kernel
theorem dc_H_greatestHead_18 : decode cd_H_greatestHead 18 = .ok (.iconst 0, 1) := by decide +kernel
theorem dc_H_greatestHead_19 : decode cd_H_greatestHead 19 = .ok (.istore 4, 2) := by decide +kernel
theorem dc_H_greatestHead_21 : decode cd_H_greatestHead 21 = .ok (.iload 4, 2) := by decide +kernel
theorem dc_H_greatestHead_23 : decode cd_H_greatestHead 23 = .ok (.iload_n 3, 1) := by decide +kernel
theorem dc_H_greatestHead_24 : decode cd_H_greatestHead 24 = .ok (.if_icmp .ge 36, 3) := by decide +kernel
theorem dc_H_greatestHead_27 : decode cd_H_greatestHead 27 = .ok (.aload_n 2, 1) := by decide +kernel
theorem dc_H_greatestHead_28 : decode cd_H_greatestHead 28 = .ok (.iload 4, 2) := by decide +kernel
theorem dc_H_greatestHead_30 : decode cd_H_greatestHead 30 = .ok (.aaload, 1) := by decide +kernel
theorem dc_H_greatestHead_31 : decode cd_H_greatestHead 31 = .ok (.astore 5, 2) := by decide +kernel
theorem dc_H_greatestHead_33 : decode cd_H_greatestHead 33 = .ok (.aload 5, 2) := by decide +kernel
theorem dc_H_greatestHead_35 : decode cd_H_greatestHead 35 = .ok (.getfield 126, 3) := by decide +kernel
theorem dc_H_greatestHead_38 : decode cd_H_greatestHead 38 = .ok (.getfield 43, 3) := by decide +kernel
theorem dc_H_greatestHead_41 : decode cd_H_greatestHead 41 = .ok (.aload_n 1, 1) := by decide +kernel
theorem dc_H_greatestHead_42 : decode cd_H_greatestHead 42 = .ok (.getfield 43, 3) := by decide +kernel
theorem dc_H_greatestHead_45 : decode cd_H_greatestHead 45 = .ok (.if_icmp .le 9, 3) := by decide +kernel
theorem dc_H_greatestHead_48 : decode cd_H_greatestHead 48 = .ok (.aload 5, 2) := by decide +kernel
theorem dc_H_greatestHead_50 : decode cd_H_greatestHead 50 = .ok (.getfield 126, 3) := by decide +kernel
theorem dc_H_greatestHead_53 : decode cd_H_greatestHead 53 = .ok (.astore_n 1, 1) := by decide +kernel
theorem dc_H_greatestHead_54 : decode cd_H_greatestHead 54 = .ok (.iinc 4 1, 3) := by decide +kernel
theorem dc_H_greatestHead_57 : decode cd_H_greatestHead 57 = .ok (.goto (-36), 3) := by decide +kernel
theorem dc_H_greatestHead_60 : decode cd_H_greatestHead 60 = .ok (.aload_n 1, 1) := by decide +kernel
theorem dc_H_greatestHead_61 : decode cd_H_greatestHead 61 = .ok (.areturn, 1) := by decide +kernel
theorem dc_H_bringIdleHeadsTo_0 : decode cd_H_bringIdleHeadsTo 0 = .ok (.aload_n 0, 1) := by decide +kernel
theorem dc_H_bringIdleHeadsTo_1 : decode cd_H_bringIdleHeadsTo 1 = .ok (.getfield 49, 3) := by decide +kernel
theorem dc_H_bringIdleHeadsTo_4 : decode cd_H_bringIdleHeadsTo 4 = .ok (.astore_n 2, 1) := by decide +kernel
theorem dc_H_bringIdleHeadsTo_5 : decode cd_H_bringIdleHeadsTo 5 = .ok (.aload_n 2, 1) := by decide +kernel
theorem dc_H_bringIdleHeadsTo_6 : decode cd_H_bringIdleHeadsTo 6 = .ok (.arraylength, 1) := by decide +kernel
theorem dc_H_bringIdleHeadsTo_7 : decode cd_H_bringIdleHeadsTo 7 = .ok (.istore_n 3, 1) := by decide +kernel
theorem dc_H_bringIdleHeadsTo_8 : decode cd_H_bringIdleHeadsTo 8 = .ok (.iconst 0, 1) := by decide +kernel
theorem dc_H_bringIdleHeadsTo_9 : decode cd_H_bringIdleHeadsTo 9 = .ok (.istore 4, 2) := by decide +kernel
theorem dc_H_bringIdleHeadsTo_11 : decode cd_H_bringIdleHeadsTo 11 = .ok (.iload 4, 2) := by decide +kernel
theorem dc_H_bringIdleHeadsTo_13 : decode cd_H_bringIdleHeadsTo 13 = .ok (.iload_n 3, 1) := by decide +kernel
theorem dc_H_bringIdleHeadsTo_14 : decode cd_H_bringIdleHeadsTo 14 = .ok (.if_icmp .ge 30, 3) := by decide +kernel
theorem dc_H_bringIdleHeadsTo_17 : decode cd_H_bringIdleHeadsTo 17 = .ok (.aload_n 2, 1) := by decide +kernel
theorem dc_H_bringIdleHeadsTo_18 : decode cd_H_bringIdleHeadsTo 18 = .ok (.iload 4, 2) := by decide +kernel
theorem dc_H_bringIdleHeadsTo_20 : decode cd_H_bringIdleHeadsTo 20 = .ok (.aaload, 1) := by decide +kernel
theorem dc_H_bringIdleHeadsTo_21 : decode cd_H_bringIdleHeadsTo 21 = .ok (.astore 5, 2) := by decide +kernel
theorem dc_H_bringIdleHeadsTo_23 : decode cd_H_bringIdleHeadsTo 23 = .ok (.aload 5, 2) := by decide +kernel
theorem dc_H_bringIdleHeadsTo_25 : decode cd_H_bringIdleHeadsTo 25 = .ok (.getfield 63, 3) := by decide +kernel
theorem dc_H_bringIdleHeadsTo_28 : decode cd_H_bringIdleHeadsTo 28 = .ok (.iconst (-1), 1) := by decide +kernel
theorem dc_H_bringIdleHeadsTo_29 : decode cd_H_bringIdleHeadsTo 29 = .ok (.if_icmp .ne 9, 3) := by decide +kernel
theorem dc_H_bringIdleHeadsTo_32 : decode cd_H_bringIdleHeadsTo 32 = .ok (.aload 5, 2) := by decide +kernel
theorem dc_H_bringIdleHeadsTo_34 : decode cd_H_bringIdleHeadsTo 34 = .ok (.aload_n 1, 1) := by decide +kernel
theorem dc_H_bringIdleHeadsTo_35 : decode cd_H_bringIdleHeadsTo 35 = .ok (.putfield 126, 3) := by decide +kernel
theorem dc_H_bringIdleHeadsTo_38 : decode cd_H_bringIdleHeadsTo 38 = .ok (.iinc 4 1, 3) := by decide +kernel
theorem dc_H_bringIdleHeadsTo_41 : decode cd_H_bringIdleHeadsTo 41 = .ok (.goto (-30), 3) := by decide +kernel
theorem dc_H_bringIdleHeadsTo_44 : decode cd_H_bringIdleHeadsTo 44 = .ok (.return_, 1) := by decide +kernel
theorem dc_H_leastHeadNumber_0 : decode cd_H_leastHeadNumber 0 = .ok (.aload_n 0, 1) := by decide +kernel
theorem dc_H_leastHeadNumber_1 : decode cd_H_leastHeadNumber 1 = .ok (.getfield 49, 3) := by decide +kernel
theorem dc_H_leastHeadNumber_4 : decode cd_H_leastHeadNumber 4 = .ok (.iconst 0, 1) := by decide +kernel
theorem dc_H_leastHeadNumber_5 : decode cd_H_leastHeadNumber 5 = .ok (.aaload, 1) := by decide +kernel
theorem dc_H_leastHeadNumber_6 : decode cd_H_leastHeadNumber 6 = .ok (.getfield 126, 3) := by decide +kernel
theorem dc_H_leastHeadNumber_9 : decode cd_H_leastHeadNumber 9 = .ok (.getfield 43, 3) := by decide +kernel
theorem dc_H_leastHeadNumber_12 : decode cd_H_leastHeadNumber 12 = .ok (.istore_n 1, 1) := by decide +kernel
theorem dc_H_leastHeadNumber_13 : decode cd_H_leastHeadNumber 13 = .ok (.aload_n 0, 1) := by decide +kernel
theorem dc_H_leastHeadNumber_14 : decode cd_H_leastHeadNumber 14 = .ok (.getfield 49, 3) := by decide +kernel
theorem dc_H_leastHeadNumber_17 : decode cd_H_leastHeadNumber 17 = .ok (.astore_n 2, 1) := by decide +kernel
theorem dc_H_leastHeadNumber_18 : decode cd_H_leastHeadNumber 18 = .ok (.aload_n 2, 1) := by decide +kernel
theorem dc_H_leastHeadNumber_19 : decode cd_H_leastHeadNumber 19 = .ok (.arraylength, 1) := by decide +kernel
theorem dc_H_leastHeadNumber_20 : decode cd_H_leastHeadNumber 20 = .ok (.istore_n 3, 1) := by decide +kernel
theorem dc_H_leastHeadNumber_21 : decode cd_H_leastHeadNumber 21 = .ok (.iconst 0, 1) := by decide +kernel
theorem dc_H_leastHeadNumber_22 : decode cd_H_leastHeadNumber 22 = .ok (.istore 4, 2) := by decide +kernel
theorem dc_H_leastHeadNumber_24 : decode cd_H_leastHeadNumber 24 = .ok (.iload 4, 2) := by decide +kernel
theorem dc_H_leastHeadNumber_26 : decode cd_H_leastHeadNumber 26 = .ok (.iload_n 3, 1) := by decide +kernel
theorem dc_H_leastHeadNumber_27 : decode cd_H_leastHeadNumber 27 = .ok (.if_icmp .ge 28, 3) := by decide +kernel
theorem dc_H_leastHeadNumber_30 : decode cd_H_leastHeadNumber 30 = .ok (.aload_n 2, 1) := by decide +kernel
theorem dc_H_leastHeadNumber_31 : decode cd_H_leastHeadNumber 31 = .ok (.iload 4, 2) := by decide +kernel
theorem dc_H_leastHeadNumber_33 : decode cd_H_leastHeadNumber 33 = .ok (.aaload, 1) := by decide +kernel
theorem dc_H_leastHeadNumber_34 : decode cd_H_leastHeadNumber 34 = .ok (.astore 5, 2) := by decide +kernel
theorem dc_H_leastHeadNumber_36 : decode cd_H_leastHeadNumber 36 = .ok (.iload_n 1, 1) := by decide +kernel
theorem dc_H_leastHeadNumber_37 : decode cd_H_leastHeadNumber 37 = .ok (.aload 5, 2) := by decide +kernel
theorem dc_H_leastHeadNumber_39 : decode cd_H_leastHeadNumber 39 = .ok (.getfield 126, 3) := by decide +kernel
theorem dc_H_leastHeadNumber_42 : decode cd_H_leastHeadNumber 42 = .ok (.getfield 43, 3) := by decide +kernel
theorem dc_H_leastHeadNumber_45 : decode cd_H_leastHeadNumber 45 = .ok (.invokestatic 9, 3) := by decide +kernel
theorem dc_H_leastHeadNumber_48 : decode cd_H_leastHeadNumber 48 = .ok (.istore_n 1, 1) := by decide +kernel
theorem dc_H_leastHeadNumber_49 : decode cd_H_leastHeadNumber 49 = .ok (.iinc 4 1, 3) := by decide +kernel
theorem dc_H_leastHeadNumber_52 : decode cd_H_leastHeadNumber 52 = .ok (.goto (-28), 3) := by decide +kernel
theorem dc_H_leastHeadNumber_55 : decode cd_H_leastHeadNumber 55 = .ok (.iload_n 1, 1) := by decide +kernel
theorem dc_H_leastHeadNumber_56 : decode cd_H_leastHeadNumber 56 = .ok (.ireturn, 1) := by decide +kernel
theorem dc_H_releaseBelow_0 : decode cd_H_releaseBelow 0 = .ok (.iconst 0, 1) := by decide +kernel
theorem dc_H_releaseBelow_1 : decode cd_H_releaseBelow 1 = .ok (.istore_n 2, 1) := by decide +kernel
theorem dc_H_releaseBelow_2 : decode cd_H_releaseBelow 2 = .ok (.aload_n 0, 1) := by decide +kernel
theorem dc_H_releaseBelow_3 : decode cd_H_releaseBelow 3 = .ok (.getfield 34, 3) := by decide +kernel
theorem dc_H_releaseBelow_6 : decode cd_H_releaseBelow 6 = .ok (.astore_n 3, 1) := by decide +kernel
theorem dc_H_releaseBelow_7 : decode cd_H_releaseBelow 7 = .ok (.aload_n 3, 1) := by decide +kernel
theorem dc_H_releaseBelow_8 : decode cd_H_releaseBelow 8 = .ok (.arraylength, 1) := by decide +kernel
theorem dc_H_releaseBelow_9 : decode cd_H_releaseBelow 9 = .ok (.istore 4, 2) := by decide +kernel
theorem dc_H_releaseBelow_11 : decode cd_H_releaseBelow 11 = .ok (.iconst 0, 1) := by decide +kernel
theorem dc_H_releaseBelow_12 : decode cd_H_releaseBelow 12 = .ok (.istore 5, 2) := by decide +kernel
theorem dc_H_releaseBelow_14 : decode cd_H_releaseBelow 14 = .ok (.iload 5, 2) := by decide +kernel
theorem dc_H_releaseBelow_16 : decode cd_H_releaseBelow 16 = .ok (.iload 4, 2) := by decide +kernel
theorem dc_H_releaseBelow_18 : decode cd_H_releaseBelow 18 = .ok (.if_icmp .ge 41, 3) := by decide +kernel
theorem dc_H_releaseBelow_21 : decode cd_H_releaseBelow 21 = .ok (.aload_n 3, 1) := by decide +kernel
theorem dc_H_releaseBelow_22 : decode cd_H_releaseBelow 22 = .ok (.iload 5, 2) := by decide +kernel
theorem dc_H_releaseBelow_24 : decode cd_H_releaseBelow 24 = .ok (.aaload, 1) := by decide +kernel
theorem dc_H_releaseBelow_25 : decode cd_H_releaseBelow 25 = .ok (.astore 6, 2) := by decide +kernel
theorem dc_H_releaseBelow_27 : decode cd_H_releaseBelow 27 = .ok (.aload 6, 2) := by decide +kernel
theorem dc_H_releaseBelow_29 : decode cd_H_releaseBelow 29 = .ok (.invokevirtual 103, 3) := by decide +kernel
theorem dc_H_releaseBelow_32 : decode cd_H_releaseBelow 32 = .ok (.ifCond .eq 21, 3) := by decide +kernel
theorem dc_H_releaseBelow_35 : decode cd_H_releaseBelow 35 = .ok (.aload 6, 2) := by decide +kernel
theorem dc_H_releaseBelow_37 : decode cd_H_releaseBelow 37 = .ok (.getfield 43, 3) := by decide +kernel
theorem dc_H_releaseBelow_40 : decode cd_H_releaseBelow 40 = .ok (.iload_n 1, 1) := by decide +kernel
theorem dc_H_releaseBelow_41 : decode cd_H_releaseBelow 41 = .ok (.if_icmp .ge 12, 3) := by decide +kernel
theorem dc_H_releaseBelow_44 : decode cd_H_releaseBelow 44 = .ok (.aload 6, 2) := by decide +kernel
theorem dc_H_releaseBelow_46 : decode cd_H_releaseBelow 46 = .ok (.iconst 0, 1) := by decide +kernel
theorem dc_H_releaseBelow_47 : decode cd_H_releaseBelow 47 = .ok (.putfield 39, 3) := by decide +kernel
theorem dc_H_releaseBelow_50 : decode cd_H_releaseBelow 50 = .ok (.iinc 2 1, 3) := by decide +kernel
theorem dc_H_releaseBelow_53 : decode cd_H_releaseBelow 53 = .ok (.iinc 5 1, 3) := by decide +kernel
theorem dc_H_releaseBelow_56 : decode cd_H_releaseBelow 56 = .ok (.goto (-42), 3) := by decide +kernel
theorem dc_H_releaseBelow_59 : decode cd_H_releaseBelow 59 = .ok (.iload_n 2, 1) := by decide +kernel
theorem dc_H_releaseBelow_60 : decode cd_H_releaseBelow 60 = .ok (.ireturn, 1) := by decide +kernel
theorem dc_G_init_0 : decode cd_G_init 0 = .ok (.aload_n 0, 1) := by decide +kernel
theorem dc_G_init_1 : decode cd_G_init 1 = .ok (.bipush 8, 2) := by decide +kernel
theorem dc_G_init_3 : decode cd_G_init 3 = .ok (.iconst 0, 1) := by decide +kernel
theorem dc_G_init_4 : decode cd_G_init 4 = .ok (.invokespecial 1, 3) := by decide +kernel
theorem dc_G_init_7 : decode cd_G_init 7 = .ok (.return_, 1) := by decide +kernel
theorem dc_G_perform_0 : decode cd_G_perform 0 = .ok (.iload_n 1, 1) := by decide +kernel
theorem dc_G_perform_1 : decode cd_G_perform 1 = .ok (.lookupswitch 49 #[(0, 27), (1, 33)], 27) := by decide +kernel
theorem dc_G_perform_28 : decode cd_G_perform 28 = .ok (.aload_n 0, 1) := by decide +kernel
theorem dc_G_perform_29 : decode cd_G_perform 29 = .ok (.iload_n 2, 1) := by decide +kernel
theorem dc_G_perform_30 : decode cd_G_perform 30 = .ok (.invokevirtual 7, 3) := by decide +kernel
theorem dc_G_perform_33 : decode cd_G_perform 33 = .ok (.ireturn, 1) := by decide +kernel
theorem dc_G_perform_34 : decode cd_G_perform 34 = .ok (.aload_n 0, 1) := by decide +kernel
theorem dc_G_perform_35 : decode cd_G_perform 35 = .ok (.getfield 13, 3) := by decide +kernel
theorem dc_G_perform_38 : decode cd_G_perform 38 = .ok (.ifCond .le 10, 3) := by decide +kernel
theorem dc_G_perform_41 : decode cd_G_perform 41 = .ok (.aload_n 0, 1) := by decide +kernel
theorem dc_G_perform_42 : decode cd_G_perform 42 = .ok (.invokevirtual 17, 3) := by decide +kernel
theorem dc_G_perform_45 : decode cd_G_perform 45 = .ok (.goto 4, 3) := by decide +kernel
theorem dc_G_perform_48 : decode cd_G_perform 48 = .ok (.iconst (-1), 1) := by decide +kernel
theorem dc_G_perform_49 : decode cd_G_perform 49 = .ok (.ireturn, 1) := by decide +kernel
theorem dc_G_perform_50 : decode cd_G_perform 50 = .ok (.aload_n 0, 1) := by decide +kernel
theorem dc_G_perform_51 : decode cd_G_perform 51 = .ok (.getfield 13, 3) := by decide +kernel
theorem dc_G_perform_54 : decode cd_G_perform 54 = .ok (.ireturn, 1) := by decide +kernel
theorem dc_G_putIn_0 : decode cd_G_putIn 0 = .ok (.aload_n 0, 1) := by decide +kernel
theorem dc_G_putIn_1 : decode cd_G_putIn 1 = .ok (.getfield 13, 3) := by decide +kernel
theorem dc_G_putIn_4 : decode cd_G_putIn 4 = .ok (.aload_n 0, 1) := by decide +kernel
theorem dc_G_putIn_5 : decode cd_G_putIn 5 = .ok (.getfield 21, 3) := by decide +kernel
theorem dc_G_putIn_8 : decode cd_G_putIn 8 = .ok (.arraylength, 1) := by decide +kernel
theorem dc_G_putIn_9 : decode cd_G_putIn 9 = .ok (.if_icmp .lt 5, 3) := by decide +kernel
theorem dc_G_putIn_12 : decode cd_G_putIn 12 = .ok (.iconst (-1), 1) := by decide +kernel
theorem dc_G_putIn_13 : decode cd_G_putIn 13 = .ok (.ireturn, 1) := by decide +kernel
theorem dc_G_putIn_14 : decode cd_G_putIn 14 = .ok (.aload_n 0, 1) := by decide +kernel
theorem dc_G_putIn_15 : decode cd_G_putIn 15 = .ok (.getfield 21, 3) := by decide +kernel
theorem dc_G_putIn_18 : decode cd_G_putIn 18 = .ok (.aload_n 0, 1) := by decide +kernel
theorem dc_G_putIn_19 : decode cd_G_putIn 19 = .ok (.getfield 13, 3) := by decide +kernel
theorem dc_G_putIn_22 : decode cd_G_putIn 22 = .ok (.iload_n 1, 1) := by decide +kernel
theorem dc_G_putIn_23 : decode cd_G_putIn 23 = .ok (.iastore, 1) := by decide +kernel
theorem dc_G_putIn_24 : decode cd_G_putIn 24 = .ok (.aload_n 0, 1) := by decide +kernel
theorem dc_G_putIn_25 : decode cd_G_putIn 25 = .ok (.dup, 1) := by decide +kernel
theorem dc_G_putIn_26 : decode cd_G_putIn 26 = .ok (.getfield 13, 3) := by decide +kernel
theorem dc_G_putIn_29 : decode cd_G_putIn 29 = .ok (.iconst 1, 1) := by decide +kernel
theorem dc_G_putIn_30 : decode cd_G_putIn 30 = .ok (.iadd, 1) := by decide +kernel
theorem dc_G_putIn_31 : decode cd_G_putIn 31 = .ok (.putfield 13, 3) := by decide +kernel
theorem dc_G_putIn_34 : decode cd_G_putIn 34 = .ok (.aload_n 0, 1) := by decide +kernel
theorem dc_G_putIn_35 : decode cd_G_putIn 35 = .ok (.getfield 13, 3) := by decide +kernel
theorem dc_G_putIn_38 : decode cd_G_putIn 38 = .ok (.ireturn, 1) := by decide +kernel
theorem dc_B_init_0 : decode cd_B_init 0 = .ok (.aload_n 0, 1) := by decide +kernel
theorem dc_B_init_1 : decode cd_B_init 1 = .ok (.iconst 4, 1) := by decide +kernel
theorem dc_B_init_2 : decode cd_B_init 2 = .ok (.bipush 100, 2) := by decide +kernel
theorem dc_B_init_4 : decode cd_B_init 4 = .ok (.invokespecial 1, 3) := by decide +kernel
theorem dc_B_init_7 : decode cd_B_init 7 = .ok (.return_, 1) := by decide +kernel
theorem dc_B_perform_0 : decode cd_B_perform 0 = .ok (.iload_n 2, 1) := by decide +kernel
theorem dc_B_perform_1 : decode cd_B_perform 1 = .ok (.iconst 3, 1) := by decide +kernel
theorem dc_B_perform_2 : decode cd_B_perform 2 = .ok (.iand, 1) := by decide +kernel
theorem dc_B_perform_3 : decode cd_B_perform 3 = .ok (.istore 4, 2) := by decide +kernel
theorem dc_B_perform_5 : decode cd_B_perform 5 = .ok (.iload_n 1, 1) := by decide +kernel
theorem dc_B_perform_6 : decode cd_B_perform 6 = .ok (.lookupswitch 44 #[(0, 26), (1, 36)], 26) := by decide +kernel
theorem dc_B_perform_32 : decode cd_B_perform 32 = .ok (.aload_n 0, 1) := by decide +kernel
theorem dc_B_perform_33 : decode cd_B_perform 33 = .ok (.iload 4, 2) := by decide +kernel
theorem dc_B_perform_35 : decode cd_B_perform 35 = .ok (.iload_n 3, 1) := by decide +kernel
theorem dc_B_perform_36 : decode cd_B_perform 36 = .ok (.iconst 3, 1) := by decide +kernel
theorem dc_B_perform_37 : decode cd_B_perform 37 = .ok (.iand, 1) := by decide +kernel
theorem dc_B_perform_38 : decode cd_B_perform 38 = .ok (.invokevirtual 7, 3) := by decide +kernel
theorem dc_B_perform_41 : decode cd_B_perform 41 = .ok (.ireturn, 1) := by decide +kernel
theorem dc_B_perform_42 : decode cd_B_perform 42 = .ok (.aload_n 0, 1) := by decide +kernel
theorem dc_B_perform_43 : decode cd_B_perform 43 = .ok (.getfield 13, 3) := by decide +kernel
theorem dc_B_perform_46 : decode cd_B_perform 46 = .ok (.iload 4, 2) := by decide +kernel
theorem dc_B_perform_48 : decode cd_B_perform 48 = .ok (.iaload, 1) := by decide +kernel
theorem dc_B_perform_49 : decode cd_B_perform 49 = .ok (.ireturn, 1) := by decide +kernel
theorem dc_B_perform_50 : decode cd_B_perform 50 = .ok (.aload_n 0, 1) := by decide +kernel
theorem dc_B_perform_51 : decode cd_B_perform 51 = .ok (.getfield 13, 3) := by decide +kernel
theorem dc_B_perform_54 : decode cd_B_perform 54 = .ok (.iload 4, 2) := by decide +kernel
theorem dc_B_perform_56 : decode cd_B_perform 56 = .ok (.dup2, 1) := by decide +kernel
theorem dc_B_perform_57 : decode cd_B_perform 57 = .ok (.iaload, 1) := by decide +kernel
theorem dc_B_perform_58 : decode cd_B_perform 58 = .ok (.iload_n 3, 1) := by decide +kernel
theorem dc_B_perform_59 : decode cd_B_perform 59 = .ok (.iadd, 1) := by decide +kernel
theorem dc_B_perform_60 : decode cd_B_perform 60 = .ok (.iastore, 1) := by decide +kernel
theorem dc_B_perform_61 : decode cd_B_perform 61 = .ok (.aload_n 0, 1) := by decide +kernel
theorem dc_B_perform_62 : decode cd_B_perform 62 = .ok (.getfield 13, 3) := by decide +kernel
theorem dc_B_perform_65 : decode cd_B_perform 65 = .ok (.iload 4, 2) := by decide +kernel
theorem dc_B_perform_67 : decode cd_B_perform 67 = .ok (.iaload, 1) := by decide +kernel
theorem dc_B_perform_68 : decode cd_B_perform 68 = .ok (.ireturn, 1) := by decide +kernel
theorem dc_B_transfer_0 : decode cd_B_transfer 0 = .ok (.aload_n 0, 1) := by decide +kernel
theorem dc_B_transfer_1 : decode cd_B_transfer 1 = .ok (.getfield 13, 3) := by decide +kernel
theorem dc_B_transfer_4 : decode cd_B_transfer 4 = .ok (.iload_n 1, 1) := by decide +kernel
theorem dc_B_transfer_5 : decode cd_B_transfer 5 = .ok (.iaload, 1) := by decide +kernel
theorem dc_B_transfer_6 : decode cd_B_transfer 6 = .ok (.bipush 10, 2) := by decide +kernel
theorem dc_B_transfer_8 : decode cd_B_transfer 8 = .ok (.if_icmp .ge 5, 3) := by decide +kernel
theorem dc_B_transfer_11 : decode cd_B_transfer 11 = .ok (.iconst 0, 1) := by decide +kernel
theorem dc_B_transfer_12 : decode cd_B_transfer 12 = .ok (.ireturn, 1) := by decide +kernel
theorem dc_B_transfer_13 : decode cd_B_transfer 13 = .ok (.aload_n 0, 1) := by decide +kernel
theorem dc_B_transfer_14 : decode cd_B_transfer 14 = .ok (.getfield 13, 3) := by decide +kernel
theorem dc_B_transfer_17 : decode cd_B_transfer 17 = .ok (.iload_n 1, 1) := by decide +kernel
theorem dc_B_transfer_18 : decode cd_B_transfer 18 = .ok (.dup2, 1) := by decide +kernel
theorem dc_B_transfer_19 : decode cd_B_transfer 19 = .ok (.iaload, 1) := by decide +kernel
theorem dc_B_transfer_20 : decode cd_B_transfer 20 = .ok (.bipush 10, 2) := by decide +kernel
theorem dc_B_transfer_22 : decode cd_B_transfer 22 = .ok (.isub, 1) := by decide +kernel
theorem dc_B_transfer_23 : decode cd_B_transfer 23 = .ok (.iastore, 1) := by decide +kernel
theorem dc_B_transfer_24 : decode cd_B_transfer 24 = .ok (.aload_n 0, 1) := by decide +kernel
theorem dc_B_transfer_25 : decode cd_B_transfer 25 = .ok (.getfield 13, 3) := by decide +kernel
theorem dc_B_transfer_28 : decode cd_B_transfer 28 = .ok (.iload_n 2, 1) := by decide +kernel
theorem dc_B_transfer_29 : decode cd_B_transfer 29 = .ok (.dup2, 1) := by decide +kernel
theorem dc_B_transfer_30 : decode cd_B_transfer 30 = .ok (.iaload, 1) := by decide +kernel
theorem dc_B_transfer_31 : decode cd_B_transfer 31 = .ok (.bipush 10, 2) := by decide +kernel
theorem dc_B_transfer_33 : decode cd_B_transfer 33 = .ok (.iadd, 1) := by decide +kernel
theorem dc_B_transfer_34 : decode cd_B_transfer 34 = .ok (.iastore, 1) := by decide +kernel
theorem dc_B_transfer_35 : decode cd_B_transfer 35 = .ok (.iconst 1, 1) := by decide +kernel
theorem dc_B_transfer_36 : decode cd_B_transfer 36 = .ok (.ireturn, 1) := by decide +kernel
theorem dc_C_init_0 : decode cd_C_init 0 = .ok (.aload_n 0, 1) := by decide +kernel
theorem dc_C_init_1 : decode cd_C_init 1 = .ok (.invokespecial 3, 3) := by decide +kernel
theorem dc_C_init_4 : decode cd_C_init 4 = .ok (.aload_n 0, 1) := by decide +kernel
theorem dc_C_init_5 : decode cd_C_init 5 = .ok (.iconst (-1), 1) := by decide +kernel
theorem dc_C_init_6 : decode cd_C_init 6 = .ok (.putfield 9, 3) := by decide +kernel
theorem dc_C_init_9 : decode cd_C_init 9 = .ok (.aload_n 0, 1) := by decide +kernel
theorem dc_C_init_10 : decode cd_C_init 10 = .ok (.iconst (-1), 1) := by decide +kernel
theorem dc_C_init_11 : decode cd_C_init 11 = .ok (.putfield 15, 3) := by decide +kernel
theorem dc_C_init_14 : decode cd_C_init 14 = .ok (.aload_n 0, 1) := by decide +kernel
theorem dc_C_init_15 : decode cd_C_init 15 = .ok (.iload_n 1, 1) := by decide +kernel
theorem dc_C_init_16 : decode cd_C_init 16 = .ok (.putfield 18, 3) := by decide +kernel
theorem dc_C_init_19 : decode cd_C_init 19 = .ok (.aload_n 0, 1) := by decide +kernel
theorem dc_C_init_20 : decode cd_C_init 20 = .ok (.aload_n 2, 1) := by decide +kernel
theorem dc_C_init_21 : decode cd_C_init 21 = .ok (.putfield 21, 3) := by decide +kernel
theorem dc_C_init_24 : decode cd_C_init 24 = .ok (.aload_n 0, 1) := by decide +kernel
theorem dc_C_init_25 : decode cd_C_init 25 = .ok (.aload_n 2, 1) := by decide +kernel
theorem dc_C_init_26 : decode cd_C_init 26 = .ok (.putfield 25, 3) := by decide +kernel
theorem dc_C_init_29 : decode cd_C_init 29 = .ok (.aload_n 0, 1) := by decide +kernel
theorem dc_C_init_30 : decode cd_C_init 30 = .ok (.aload_n 2, 1) := by decide +kernel
theorem dc_C_init_31 : decode cd_C_init 31 = .ok (.putfield 28, 3) := by decide +kernel
theorem dc_C_init_34 : decode cd_C_init 34 = .ok (.aload_n 0, 1) := by decide +kernel
theorem dc_C_init_35 : decode cd_C_init 35 = .ok (.aload_n 2, 1) := by decide +kernel
theorem dc_C_init_36 : decode cd_C_init 36 = .ok (.putfield 31, 3) := by decide +kernel
theorem dc_C_init_39 : decode cd_C_init 39 = .ok (.return_, 1) := by decide +kernel
theorem dc_N_init_0 : decode cd_N_init 0 = .ok (.aload_n 0, 1) := by decide +kernel
theorem dc_N_init_1 : decode cd_N_init 1 = .ok (.invokespecial 3, 3) := by decide +kernel
theorem dc_N_init_4 : decode cd_N_init 4 = .ok (.aload_n 0, 1) := by decide +kernel
theorem dc_N_init_5 : decode cd_N_init 5 = .ok (.iconst (-1), 1) := by decide +kernel
theorem dc_N_init_6 : decode cd_N_init 6 = .ok (.putfield 9, 3) := by decide +kernel
theorem dc_N_init_9 : decode cd_N_init 9 = .ok (.aload_n 0, 1) := by decide +kernel
theorem dc_N_init_10 : decode cd_N_init 10 = .ok (.iconst (-1), 1) := by decide +kernel
theorem dc_N_init_11 : decode cd_N_init 11 = .ok (.putfield 15, 3) := by decide +kernel
theorem dc_N_init_14 : decode cd_N_init 14 = .ok (.aload_n 0, 1) := by decide +kernel
theorem dc_N_init_15 : decode cd_N_init 15 = .ok (.iconst (-1), 1) := by decide +kernel
theorem dc_N_init_16 : decode cd_N_init 16 = .ok (.putfield 18, 3) := by decide +kernel
theorem dc_N_init_19 : decode cd_N_init 19 = .ok (.aload_n 0, 1) := by decide +kernel
theorem dc_N_init_20 : decode cd_N_init 20 = .ok (.iconst (-1), 1) := by decide +kernel
theorem dc_N_init_21 : decode cd_N_init 21 = .ok (.putfield 21, 3) := by decide +kernel
theorem dc_N_init_24 : decode cd_N_init 24 = .ok (.return_, 1) := by decide +kernel
theorem dc_N_isOnLog_0 : decode cd_N_isOnLog 0 = .ok (.aload_n 0, 1) := by decide +kernel
theorem dc_N_isOnLog_1 : decode cd_N_isOnLog 1 = .ok (.getfield 24, 3) := by decide +kernel
theorem dc_N_isOnLog_4 : decode cd_N_isOnLog 4 = .ok (.ifCond .eq 14, 3) := by decide +kernel
theorem dc_N_isOnLog_7 : decode cd_N_isOnLog 7 = .ok (.aload_n 0, 1) := by decide +kernel
theorem dc_N_isOnLog_8 : decode cd_N_isOnLog 8 = .ok (.getfield 28, 3) := by decide +kernel
theorem dc_N_isOnLog_11 : decode cd_N_isOnLog 11 = .ok (.ifCond .le 7, 3) := by decide +kernel
theorem dc_N_isOnLog_14 : decode cd_N_isOnLog 14 = .ok (.iconst 1, 1) := by decide +kernel
theorem dc_N_isOnLog_15 : decode cd_N_isOnLog 15 = .ok (.goto 4, 3) := by decide +kernel
theorem dc_N_isOnLog_18 : decode cd_N_isOnLog 18 = .ok (.iconst 0, 1) := by decide +kernel
theorem dc_N_isOnLog_19 : decode cd_N_isOnLog 19 = .ok (.ireturn, 1) := by decide +kernel
theorem dc_N_take_0 : decode cd_N_take 0 = .ok (.aload_n 0, 1) := by decide +kernel
theorem dc_N_take_1 : decode cd_N_take 1 = .ok (.iconst 1, 1) := by decide +kernel
theorem dc_N_take_2 : decode cd_N_take 2 = .ok (.putfield 24, 3) := by decide +kernel
theorem dc_N_take_5 : decode cd_N_take 5 = .ok (.aload_n 0, 1) := by decide +kernel
theorem dc_N_take_6 : decode cd_N_take 6 = .ok (.aload_n 1, 1) := by decide +kernel
theorem dc_N_take_7 : decode cd_N_take 7 = .ok (.getfield 31, 3) := by decide +kernel
theorem dc_N_take_10 : decode cd_N_take 10 = .ok (.putfield 9, 3) := by decide +kernel
theorem dc_N_take_13 : decode cd_N_take 13 = .ok (.aload_n 0, 1) := by decide +kernel
theorem dc_N_take_14 : decode cd_N_take 14 = .ok (.aload_n 1, 1) := by decide +kernel
theorem dc_N_take_15 : decode cd_N_take 15 = .ok (.getfield 34, 3) := by decide +kernel
theorem dc_N_take_18 : decode cd_N_take 18 = .ok (.putfield 15, 3) := by decide +kernel
theorem dc_N_take_21 : decode cd_N_take 21 = .ok (.aload_n 0, 1) := by decide +kernel
theorem dc_N_take_22 : decode cd_N_take 22 = .ok (.aload_n 1, 1) := by decide +kernel
theorem dc_N_take_23 : decode cd_N_take 23 = .ok (.getfield 35, 3) := by decide +kernel
theorem dc_N_take_26 : decode cd_N_take 26 = .ok (.putfield 18, 3) := by decide +kernel
theorem dc_N_take_29 : decode cd_N_take 29 = .ok (.aload_n 0, 1) := by decide +kernel
theorem dc_N_take_30 : decode cd_N_take 30 = .ok (.aload_n 1, 1) := by decide +kernel
theorem dc_N_take_31 : decode cd_N_take 31 = .ok (.getfield 36, 3) := by decide +kernel
theorem dc_N_take_34 : decode cd_N_take 34 = .ok (.putfield 21, 3) := by decide +kernel
theorem dc_N_take_37 : decode cd_N_take 37 = .ok (.aload_n 0, 1) := by decide +kernel
theorem dc_N_take_38 : decode cd_N_take 38 = .ok (.iconst 0, 1) := by decide +kernel
theorem dc_N_take_39 : decode cd_N_take 39 = .ok (.putfield 28, 3) := by decide +kernel
theorem dc_N_take_42 : decode cd_N_take 42 = .ok (.aload_n 0, 1) := by decide +kernel
theorem dc_N_take_43 : decode cd_N_take 43 = .ok (.aconst_null, 1) := by decide +kernel
theorem dc_N_take_44 : decode cd_N_take 44 = .ok (.putfield 37, 3) := by decide +kernel
theorem dc_N_take_47 : decode cd_N_take 47 = .ok (.return_, 1) := by decide +kernel
theorem dc_N_part_0 : decode cd_N_part 0 = .ok (.iload_n 1, 1) := by decide +kernel
theorem dc_N_part_1 : decode cd_N_part 1 = .ok (.tableswitch 42 0 2 #[27, 32, 37], 27) := by decide +kernel
theorem dc_N_part_28 : decode cd_N_part 28 = .ok (.aload_n 0, 1) := by decide +kernel
theorem dc_N_part_29 : decode cd_N_part 29 = .ok (.getfield 9, 3) := by decide +kernel
theorem dc_N_part_32 : decode cd_N_part 32 = .ok (.ireturn, 1) := by decide +kernel
theorem dc_N_part_33 : decode cd_N_part 33 = .ok (.aload_n 0, 1) := by decide +kernel
theorem dc_N_part_34 : decode cd_N_part 34 = .ok (.getfield 15, 3) := by decide +kernel
theorem dc_N_part_37 : decode cd_N_part 37 = .ok (.ireturn, 1) := by decide +kernel
theorem dc_N_part_38 : decode cd_N_part 38 = .ok (.aload_n 0, 1) := by decide +kernel
theorem dc_N_part_39 : decode cd_N_part 39 = .ok (.getfield 18, 3) := by decide +kernel
theorem dc_N_part_42 : decode cd_N_part 42 = .ok (.ireturn, 1) := by decide +kernel
theorem dc_N_part_43 : decode cd_N_part 43 = .ok (.aload_n 0, 1) := by decide +kernel
theorem dc_N_part_44 : decode cd_N_part 44 = .ok (.getfield 21, 3) := by decide +kernel
theorem dc_N_part_47 : decode cd_N_part 47 = .ok (.ireturn, 1) := by decide +kernel
theorem dc_P_init_0 : decode cd_P_init 0 = .ok (.aload_n 0, 1) := by decide +kernel
theorem dc_P_init_1 : decode cd_P_init 1 = .ok (.invokespecial 1, 3) := by decide +kernel
theorem dc_P_init_4 : decode cd_P_init 4 = .ok (.aload_n 0, 1) := by decide +kernel
theorem dc_P_init_5 : decode cd_P_init 5 = .ok (.iload_n 1, 1) := by decide +kernel
theorem dc_P_init_6 : decode cd_P_init 6 = .ok (.newarray .int, 2) := by decide +kernel
theorem dc_P_init_8 : decode cd_P_init 8 = .ok (.putfield 7, 3) := by decide +kernel
theorem dc_P_init_11 : decode cd_P_init 11 = .ok (.aload_n 0, 1) := by decide +kernel
theorem dc_P_init_12 : decode cd_P_init 12 = .ok (.getfield 7, 3) := by decide +kernel
theorem dc_P_init_15 : decode cd_P_init 15 = .ok (.iload_n 2, 1) := by decide +kernel
theorem dc_P_init_16 : decode cd_P_init 16 = .ok (.invokestatic 13, 3) := by decide +kernel
theorem dc_P_init_19 : decode cd_P_init 19 = .ok (.return_, 1) := by decide +kernel
theorem dc_P_copyFrom_0 : decode cd_P_copyFrom 0 = .ok (.aload_n 1, 1) := by decide +kernel
theorem dc_P_copyFrom_1 : decode cd_P_copyFrom 1 = .ok (.getfield 7, 3) := by decide +kernel
theorem dc_P_copyFrom_4 : decode cd_P_copyFrom 4 = .ok (.iconst 0, 1) := by decide +kernel
theorem dc_P_copyFrom_5 : decode cd_P_copyFrom 5 = .ok (.aload_n 0, 1) := by decide +kernel
theorem dc_P_copyFrom_6 : decode cd_P_copyFrom 6 = .ok (.getfield 7, 3) := by decide +kernel
theorem dc_P_copyFrom_9 : decode cd_P_copyFrom 9 = .ok (.iconst 0, 1) := by decide +kernel
theorem dc_P_copyFrom_10 : decode cd_P_copyFrom 10 = .ok (.aload_n 1, 1) := by decide +kernel
theorem dc_P_copyFrom_11 : decode cd_P_copyFrom 11 = .ok (.getfield 7, 3) := by decide +kernel
theorem dc_P_copyFrom_14 : decode cd_P_copyFrom 14 = .ok (.arraylength, 1) := by decide +kernel
theorem dc_P_copyFrom_15 : decode cd_P_copyFrom 15 = .ok (.aload_n 0, 1) := by decide +kernel
theorem dc_P_copyFrom_16 : decode cd_P_copyFrom 16 = .ok (.getfield 7, 3) := by decide +kernel
theorem dc_P_copyFrom_19 : decode cd_P_copyFrom 19 = .ok (.arraylength, 1) := by decide +kernel
theorem dc_P_copyFrom_20 : decode cd_P_copyFrom 20 = .ok (.invokestatic 19, 3) := by decide +kernel
theorem dc_P_copyFrom_23 : decode cd_P_copyFrom 23 = .ok (.invokestatic 25, 3) := by decide +kernel
theorem dc_P_copyFrom_26 : decode cd_P_copyFrom 26 = .ok (.aload_n 0, 1) := by decide +kernel
theorem dc_P_copyFrom_27 : decode cd_P_copyFrom 27 = .ok (.aload_n 1, 1) := by decide +kernel
theorem dc_P_copyFrom_28 : decode cd_P_copyFrom 28 = .ok (.getfield 31, 3) := by decide +kernel
theorem dc_P_copyFrom_31 : decode cd_P_copyFrom 31 = .ok (.putfield 31, 3) := by decide +kernel
theorem dc_P_copyFrom_34 : decode cd_P_copyFrom 34 = .ok (.return_, 1) := by decide +kernel
theorem dc_Q_init_0 : decode cd_Q_init 0 = .ok (.aload_n 0, 1) := by decide +kernel
theorem dc_Q_init_1 : decode cd_Q_init 1 = .ok (.invokespecial 1, 3) := by decide +kernel
theorem dc_Q_init_4 : decode cd_Q_init 4 = .ok (.return_, 1) := by decide +kernel
theorem dc_Q_takeOut_0 : decode cd_Q_takeOut 0 = .ok (.aload_n 0, 1) := by decide +kernel
theorem dc_Q_takeOut_1 : decode cd_Q_takeOut 1 = .ok (.getfield 7, 3) := by decide +kernel
theorem dc_Q_takeOut_4 : decode cd_Q_takeOut 4 = .ok (.iconst 0, 1) := by decide +kernel
theorem dc_Q_takeOut_5 : decode cd_Q_takeOut 5 = .ok (.iaload, 1) := by decide +kernel
theorem dc_Q_takeOut_6 : decode cd_Q_takeOut 6 = .ok (.istore_n 1, 1) := by decide +kernel
theorem dc_Q_takeOut_7 : decode cd_Q_takeOut 7 = .ok (.iconst 1, 1) := by decide +kernel
theorem dc_Q_takeOut_8 : decode cd_Q_takeOut 8 = .ok (.istore_n 2, 1) := by decide +kernel
theorem dc_Q_takeOut_9 : decode cd_Q_takeOut 9 = .ok (.iload_n 2, 1) := by decide +kernel
theorem dc_Q_takeOut_10 : decode cd_Q_takeOut 10 = .ok (.aload_n 0, 1) := by decide +kernel
theorem dc_Q_takeOut_11 : decode cd_Q_takeOut 11 = .ok (.getfield 13, 3) := by decide +kernel
theorem dc_Q_takeOut_14 : decode cd_Q_takeOut 14 = .ok (.if_icmp .ge 23, 3) := by decide +kernel
theorem dc_Q_takeOut_17 : decode cd_Q_takeOut 17 = .ok (.aload_n 0, 1) := by decide +kernel
theorem dc_Q_takeOut_18 : decode cd_Q_takeOut 18 = .ok (.getfield 7, 3) := by decide +kernel
theorem dc_Q_takeOut_21 : decode cd_Q_takeOut 21 = .ok (.iload_n 2, 1) := by decide +kernel
theorem dc_Q_takeOut_22 : decode cd_Q_takeOut 22 = .ok (.iconst 1, 1) := by decide +kernel
theorem dc_Q_takeOut_23 : decode cd_Q_takeOut 23 = .ok (.isub, 1) := by decide +kernel
theorem dc_Q_takeOut_24 : decode cd_Q_takeOut 24 = .ok (.aload_n 0, 1) := by decide +kernel
theorem dc_Q_takeOut_25 : decode cd_Q_takeOut 25 = .ok (.getfield 7, 3) := by decide +kernel
theorem dc_Q_takeOut_28 : decode cd_Q_takeOut 28 = .ok (.iload_n 2, 1) := by decide +kernel
theorem dc_Q_takeOut_29 : decode cd_Q_takeOut 29 = .ok (.iaload, 1) := by decide +kernel
theorem dc_Q_takeOut_30 : decode cd_Q_takeOut 30 = .ok (.iastore, 1) := by decide +kernel
theorem dc_Q_takeOut_31 : decode cd_Q_takeOut 31 = .ok (.iinc 2 1, 3) := by decide +kernel
theorem dc_Q_takeOut_34 : decode cd_Q_takeOut 34 = .ok (.goto (-25), 3) := by decide +kernel
theorem dc_Q_takeOut_37 : decode cd_Q_takeOut 37 = .ok (.aload_n 0, 1) := by decide +kernel
theorem dc_Q_takeOut_38 : decode cd_Q_takeOut 38 = .ok (.dup, 1) := by decide +kernel
theorem dc_Q_takeOut_39 : decode cd_Q_takeOut 39 = .ok (.getfield 13, 3) := by decide +kernel
theorem dc_Q_takeOut_42 : decode cd_Q_takeOut 42 = .ok (.iconst 1, 1) := by decide +kernel
theorem dc_Q_takeOut_43 : decode cd_Q_takeOut 43 = .ok (.isub, 1) := by decide +kernel
theorem dc_Q_takeOut_44 : decode cd_Q_takeOut 44 = .ok (.putfield 13, 3) := by decide +kernel
theorem dc_Q_takeOut_47 : decode cd_Q_takeOut 47 = .ok (.iload_n 1, 1) := by decide +kernel
theorem dc_Q_takeOut_48 : decode cd_Q_takeOut 48 = .ok (.ireturn, 1) := by decide +kernel
theorem dc_S_init_0 : decode cd_S_init 0 = .ok (.aload_n 0, 1) := by decide +kernel
theorem dc_S_init_1 : decode cd_S_init 1 = .ok (.invokespecial 1, 3) := by decide +kernel
theorem dc_S_init_4 : decode cd_S_init 4 = .ok (.return_, 1) := by decide +kernel
theorem dc_S_takeOut_0 : decode cd_S_takeOut 0 = .ok (.aload_n 0, 1) := by decide +kernel
theorem dc_S_takeOut_1 : decode cd_S_takeOut 1 = .ok (.dup, 1) := by decide +kernel
theorem dc_S_takeOut_2 : decode cd_S_takeOut 2 = .ok (.getfield 7, 3) := by decide +kernel
theorem dc_S_takeOut_5 : decode cd_S_takeOut 5 = .ok (.iconst 1, 1) := by decide +kernel
theorem dc_S_takeOut_6 : decode cd_S_takeOut 6 = .ok (.isub, 1) := by decide +kernel
theorem dc_S_takeOut_7 : decode cd_S_takeOut 7 = .ok (.putfield 7, 3) := by decide +kernel
theorem dc_S_takeOut_10 : decode cd_S_takeOut 10 = .ok (.aload_n 0, 1) := by decide +kernel
theorem dc_S_takeOut_11 : decode cd_S_takeOut 11 = .ok (.getfield 13, 3) := by decide +kernel
theorem dc_S_takeOut_14 : decode cd_S_takeOut 14 = .ok (.aload_n 0, 1) := by decide +kernel
theorem dc_S_takeOut_15 : decode cd_S_takeOut 15 = .ok (.getfield 7, 3) := by decide +kernel
theorem dc_S_takeOut_18 : decode cd_S_takeOut 18 = .ok (.iaload, 1) := by decide +kernel
theorem dc_S_takeOut_19 : decode cd_S_takeOut 19 = .ok (.ireturn, 1) := by decide +kernel
theorem dc_T_init_0 : decode cd_T_init 0 = .ok (.aload_n 0, 1) := by decide +kernel
theorem dc_T_init_1 : decode cd_T_init 1 = .ok (.bipush 8, 2) := by decide +kernel
theorem dc_T_init_3 : decode cd_T_init 3 = .ok (.iconst 0, 1) := by decide +kernel
theorem dc_T_init_4 : decode cd_T_init 4 = .ok (.invokespecial 1, 3) := by decide +kernel
theorem dc_T_init_7 : decode cd_T_init 7 = .ok (.return_, 1) := by decide +kernel
theorem dc_T_perform_0 : decode cd_T_perform 0 = .ok (.iload_n 2, 1) := by decide +kernel
theorem dc_T_perform_1 : decode cd_T_perform 1 = .ok (.bipush 7, 2) := by decide +kernel
theorem dc_T_perform_3 : decode cd_T_perform 3 = .ok (.iand, 1) := by decide +kernel
theorem dc_T_perform_4 : decode cd_T_perform 4 = .ok (.istore 4, 2) := by decide +kernel
theorem dc_T_perform_6 : decode cd_T_perform 6 = .ok (.iload_n 1, 1) := by decide +kernel
theorem dc_T_perform_7 : decode cd_T_perform 7 = .ok (.lookupswitch 53 #[(0, 25), (1, 45)], 25) := by decide +kernel
theorem dc_T_perform_32 : decode cd_T_perform 32 = .ok (.aload_n 0, 1) := by decide +kernel
theorem dc_T_perform_33 : decode cd_T_perform 33 = .ok (.getfield 7, 3) := by decide +kernel
theorem dc_T_perform_36 : decode cd_T_perform 36 = .ok (.iload 4, 2) := by decide +kernel
theorem dc_T_perform_38 : decode cd_T_perform 38 = .ok (.iaload, 1) := by decide +kernel
theorem dc_T_perform_39 : decode cd_T_perform 39 = .ok (.istore 5, 2) := by decide +kernel
theorem dc_T_perform_41 : decode cd_T_perform 41 = .ok (.aload_n 0, 1) := by decide +kernel
theorem dc_T_perform_42 : decode cd_T_perform 42 = .ok (.getfield 7, 3) := by decide +kernel
theorem dc_T_perform_45 : decode cd_T_perform 45 = .ok (.iload 4, 2) := by decide +kernel
theorem dc_T_perform_47 : decode cd_T_perform 47 = .ok (.iload_n 3, 1) := by decide +kernel
theorem dc_T_perform_48 : decode cd_T_perform 48 = .ok (.iastore, 1) := by decide +kernel
theorem dc_T_perform_49 : decode cd_T_perform 49 = .ok (.iload 5, 2) := by decide +kernel
theorem dc_T_perform_51 : decode cd_T_perform 51 = .ok (.ireturn, 1) := by decide +kernel
theorem dc_T_perform_52 : decode cd_T_perform 52 = .ok (.aload_n 0, 1) := by decide +kernel
theorem dc_T_perform_53 : decode cd_T_perform 53 = .ok (.getfield 7, 3) := by decide +kernel
theorem dc_T_perform_56 : decode cd_T_perform 56 = .ok (.iload 4, 2) := by decide +kernel
theorem dc_T_perform_58 : decode cd_T_perform 58 = .ok (.iaload, 1) := by decide +kernel
theorem dc_T_perform_59 : decode cd_T_perform 59 = .ok (.ireturn, 1) := by decide +kernel
theorem dc_T_perform_60 : decode cd_T_perform 60 = .ok (.aload_n 0, 1) := by decide +kernel
theorem dc_T_perform_61 : decode cd_T_perform 61 = .ok (.invokevirtual 13, 3) := by decide +kernel
theorem dc_T_perform_64 : decode cd_T_perform 64 = .ok (.ireturn, 1) := by decide +kernel
theorem dc_T_sum_0 : decode cd_T_sum 0 = .ok (.iconst 0, 1) := by decide +kernel
theorem dc_T_sum_1 : decode cd_T_sum 1 = .ok (.istore_n 1, 1) := by decide +kernel
theorem dc_T_sum_2 : decode cd_T_sum 2 = .ok (.aload_n 0, 1) := by decide +kernel
theorem dc_T_sum_3 : decode cd_T_sum 3 = .ok (.getfield 7, 3) := by decide +kernel
theorem dc_T_sum_6 : decode cd_T_sum 6 = .ok (.astore_n 2, 1) := by decide +kernel
theorem dc_T_sum_7 : decode cd_T_sum 7 = .ok (.aload_n 2, 1) := by decide +kernel
theorem dc_T_sum_8 : decode cd_T_sum 8 = .ok (.arraylength, 1) := by decide +kernel
theorem dc_T_sum_9 : decode cd_T_sum 9 = .ok (.istore_n 3, 1) := by decide +kernel
theorem dc_T_sum_10 : decode cd_T_sum 10 = .ok (.iconst 0, 1) := by decide +kernel
theorem dc_T_sum_11 : decode cd_T_sum 11 = .ok (.istore 4, 2) := by decide +kernel
theorem dc_T_sum_13 : decode cd_T_sum 13 = .ok (.iload 4, 2) := by decide +kernel
theorem dc_T_sum_15 : decode cd_T_sum 15 = .ok (.iload_n 3, 1) := by decide +kernel
theorem dc_T_sum_16 : decode cd_T_sum 16 = .ok (.if_icmp .ge 20, 3) := by decide +kernel
theorem dc_T_sum_19 : decode cd_T_sum 19 = .ok (.aload_n 2, 1) := by decide +kernel
theorem dc_T_sum_20 : decode cd_T_sum 20 = .ok (.iload 4, 2) := by decide +kernel
theorem dc_T_sum_22 : decode cd_T_sum 22 = .ok (.iaload, 1) := by decide +kernel
theorem dc_T_sum_23 : decode cd_T_sum 23 = .ok (.istore 5, 2) := by decide +kernel
theorem dc_T_sum_25 : decode cd_T_sum 25 = .ok (.iload_n 1, 1) := by decide +kernel
theorem dc_T_sum_26 : decode cd_T_sum 26 = .ok (.iload 5, 2) := by decide +kernel
theorem dc_T_sum_28 : decode cd_T_sum 28 = .ok (.iadd, 1) := by decide +kernel
theorem dc_T_sum_29 : decode cd_T_sum 29 = .ok (.istore_n 1, 1) := by decide +kernel
theorem dc_T_sum_30 : decode cd_T_sum 30 = .ok (.iinc 4 1, 3) := by decide +kernel
theorem dc_T_sum_33 : decode cd_T_sum 33 = .ok (.goto (-20), 3) := by decide +kernel
theorem dc_T_sum_36 : decode cd_T_sum 36 = .ok (.iload_n 1, 1) := by decide +kernel
theorem dc_T_sum_37 : decode cd_T_sum 37 = .ok (.ireturn, 1) := by decide +kernel
theorem dc_J_floorMod_0 : decode cd_J_floorMod 0 = .ok (.iload_n 0, 1) := by decide +kernel
theorem dc_J_floorMod_1 : decode cd_J_floorMod 1 = .ok (.iload_n 1, 1) := by decide +kernel
theorem dc_J_floorMod_2 : decode cd_J_floorMod 2 = .ok (.irem, 1) := by decide +kernel
theorem dc_J_floorMod_3 : decode cd_J_floorMod 3 = .ok (.istore_n 2, 1) := by decide +kernel
theorem dc_J_floorMod_4 : decode cd_J_floorMod 4 = .ok (.iload_n 0, 1) := by decide +kernel
theorem dc_J_floorMod_5 : decode cd_J_floorMod 5 = .ok (.iload_n 1, 1) := by decide +kernel
theorem dc_J_floorMod_6 : decode cd_J_floorMod 6 = .ok (.ixor, 1) := by decide +kernel
theorem dc_J_floorMod_7 : decode cd_J_floorMod 7 = .ok (.ifCond .ge 11, 3) := by decide +kernel
theorem dc_J_floorMod_10 : decode cd_J_floorMod 10 = .ok (.iload_n 2, 1) := by decide +kernel
theorem dc_J_floorMod_11 : decode cd_J_floorMod 11 = .ok (.ifCond .eq 7, 3) := by decide +kernel
theorem dc_J_floorMod_14 : decode cd_J_floorMod 14 = .ok (.iload_n 2, 1) := by decide +kernel
theorem dc_J_floorMod_15 : decode cd_J_floorMod 15 = .ok (.iload_n 1, 1) := by decide +kernel
theorem dc_J_floorMod_16 : decode cd_J_floorMod 16 = .ok (.iadd, 1) := by decide +kernel
theorem dc_J_floorMod_17 : decode cd_J_floorMod 17 = .ok (.ireturn, 1) := by decide +kernel
theorem dc_J_floorMod_18 : decode cd_J_floorMod 18 = .ok (.iload_n 2, 1) := by decide +kernel
theorem dc_J_floorMod_19 : decode cd_J_floorMod 19 = .ok (.ireturn, 1) := by decide +kernel
theorem dc_J_max_0 : decode cd_J_max 0 = .ok (.iload_n 0, 1) := by decide +kernel
theorem dc_J_max_1 : decode cd_J_max 1 = .ok (.iload_n 1, 1) := by decide +kernel
theorem dc_J_max_2 : decode cd_J_max 2 = .ok (.if_icmp .lt 7, 3) := by decide +kernel
theorem dc_J_max_5 : decode cd_J_max 5 = .ok (.iload_n 0, 1) := by decide +kernel
theorem dc_J_max_6 : decode cd_J_max 6 = .ok (.goto 4, 3) := by decide +kernel
theorem dc_J_max_9 : decode cd_J_max 9 = .ok (.iload_n 1, 1) := by decide +kernel
theorem dc_J_max_10 : decode cd_J_max 10 = .ok (.ireturn, 1) := by decide +kernel
theorem dc_J_min_0 : decode cd_J_min 0 = .ok (.iload_n 0, 1) := by decide +kernel
theorem dc_J_min_1 : decode cd_J_min 1 = .ok (.iload_n 1, 1) := by decide +kernel
theorem dc_J_min_2 : decode cd_J_min 2 = .ok (.if_icmp .gt 7, 3) := by decide +kernel
theorem dc_J_min_5 : decode cd_J_min 5 = .ok (.iload_n 0, 1) := by decide +kernel
theorem dc_J_min_6 : decode cd_J_min 6 = .ok (.goto 4, 3) := by decide +kernel
theorem dc_J_min_9 : decode cd_J_min 9 = .ok (.iload_n 1, 1) := by decide +kernel
theorem dc_J_min_10 : decode cd_J_min 10 = .ok (.ireturn, 1) := by decide +kernel
theorem dc_A_fill_0 : decode cd_A_fill 0 = .ok (.iconst 0, 1) := by decide +kernel
theorem dc_A_fill_1 : decode cd_A_fill 1 = .ok (.istore_n 2, 1) := by decide +kernel
theorem dc_A_fill_2 : decode cd_A_fill 2 = .ok (.aload_n 0, 1) := by decide +kernel
theorem dc_A_fill_3 : decode cd_A_fill 3 = .ok (.arraylength, 1) := by decide +kernel
theorem dc_A_fill_4 : decode cd_A_fill 4 = .ok (.istore_n 3, 1) := by decide +kernel
theorem dc_A_fill_5 : decode cd_A_fill 5 = .ok (.iload_n 2, 1) := by decide +kernel
theorem dc_A_fill_6 : decode cd_A_fill 6 = .ok (.iload_n 3, 1) := by decide +kernel
theorem dc_A_fill_7 : decode cd_A_fill 7 = .ok (.if_icmp .ge 13, 3) := by decide +kernel
theorem dc_A_fill_10 : decode cd_A_fill 10 = .ok (.aload_n 0, 1) := by decide +kernel
theorem dc_A_fill_11 : decode cd_A_fill 11 = .ok (.iload_n 2, 1) := by decide +kernel
theorem dc_A_fill_12 : decode cd_A_fill 12 = .ok (.iload_n 1, 1) := by decide +kernel
theorem dc_A_fill_13 : decode cd_A_fill 13 = .ok (.iastore, 1) := by decide +kernel
theorem dc_A_fill_14 : decode cd_A_fill 14 = .ok (.iinc 2 1, 3) := by decide +kernel
theorem dc_A_fill_17 : decode cd_A_fill 17 = .ok (.goto (-12), 3) := by decide +kernel
theorem dc_A_fill_20 : decode cd_A_fill 20 = .ok (.return_, 1) := by decide +kernel
end DEC_01y
