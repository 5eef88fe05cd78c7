section DEC_01z
theorem dc_L_cell_0 : decode cd_L_cell 0 = .ok (.iload_n 1, 1) := by decide +kernel
theorem dc_L_cell_1 : decode cd_L_cell 1 = .ok (.aload_n 0, 1) := by decide +kernel
theorem dc_L_cell_2 : decode cd_L_cell 2 = .ok (.arraylength, 1) := by decide +kernel
theorem dc_L_cell_3 : decode cd_L_cell 3 = .ok (.if_icmp .ge 9, 3) := by decide +kernel
theorem dc_L_cell_6 : decode cd_L_cell 6 = .ok (.aload_n 0, 1) := by decide +kernel
theorem dc_L_cell_7 : decode cd_L_cell 7 = .ok (.iload_n 1, 1) := by decide +kernel
theorem dc_L_cell_8 : decode cd_L_cell 8 = .ok (.iaload, 1) := by decide +kernel
theorem dc_L_cell_9 : decode cd_L_cell 9 = .ok (.goto 4, 3) := by decide +kernel
theorem dc_L_cell_12 : decode cd_L_cell 12 = .ok (.iconst 0, 1) := by decide +kernel
theorem dc_L_cell_13 : decode cd_L_cell 13 = .ok (.ireturn, 1) := by decide +kernel
theorem dc_L_call_0 : decode cd_L_call 0 = .ok (.aload_n 0, 1) := by decide +kernel
theorem dc_L_call_1 : decode cd_L_call 1 = .ok (.iload_n 1, 1) := by decide +kernel
theorem dc_L_call_2 : decode cd_L_call 2 = .ok (.iload_n 2, 1) := by decide +kernel
theorem dc_L_call_3 : decode cd_L_call 3 = .ok (.iload_n 3, 1) := by decide +kernel
theorem dc_L_call_4 : decode cd_L_call 4 = .ok (.iload 4, 2) := by decide +kernel
theorem dc_L_call_6 : decode cd_L_call 6 = .ok (.invokevirtual 7, 3) := by decide +kernel
theorem dc_L_call_9 : decode cd_L_call 9 = .ok (.goto 15, 3) := by decide +kernel
theorem dc_L_call_12 : decode cd_L_call 12 = .ok (.astore 5, 2) := by decide +kernel
theorem dc_L_call_14 : decode cd_L_call 14 = .ok (.iconst 1, 1) := by decide +kernel
theorem dc_L_call_15 : decode cd_L_call 15 = .ok (.ireturn, 1) := by decide +kernel
theorem dc_L_call_16 : decode cd_L_call 16 = .ok (.astore 5, 2) := by decide +kernel
theorem dc_L_call_18 : decode cd_L_call 18 = .ok (.iconst 2, 1) := by decide +kernel
theorem dc_L_call_19 : decode cd_L_call 19 = .ok (.ireturn, 1) := by decide +kernel
theorem dc_L_call_20 : decode cd_L_call 20 = .ok (.astore 5, 2) := by decide +kernel
theorem dc_L_call_22 : decode cd_L_call 22 = .ok (.iconst 3, 1) := by decide +kernel
theorem dc_L_call_23 : decode cd_L_call 23 = .ok (.ireturn, 1) := by decide +kernel
theorem dc_L_call_24 : decode cd_L_call 24 = .ok (.iconst 0, 1) := by decide +kernel
theorem dc_L_call_25 : decode cd_L_call 25 = .ok (.ireturn, 1) := by decide +kernel
theorem dc_L_step_0 : decode cd_L_step 0 = .ok (.aload_n 2, 1) := by decide +kernel
theorem dc_L_step_1 : decode cd_L_step 1 = .ok (.iconst 0, 1) := by decide +kernel
theorem dc_L_step_2 : decode cd_L_step 2 = .ok (.aload_n 0, 1) := by decide +kernel
theorem dc_L_step_3 : decode cd_L_step 3 = .ok (.iload_n 1, 1) := by decide +kernel
theorem dc_L_step_4 : decode cd_L_step 4 = .ok (.invokevirtual 19, 3) := by decide +kernel
theorem dc_L_step_7 : decode cd_L_step 7 = .ok (.i2l, 1) := by decide +kernel
theorem dc_L_step_8 : decode cd_L_step 8 = .ok (.lastore, 1) := by decide +kernel
theorem dc_L_step_9 : decode cd_L_step 9 = .ok (.goto 6, 3) := by decide +kernel
theorem dc_L_step_12 : decode cd_L_step 12 = .ok (.astore_n 3, 1) := by decide +kernel
theorem dc_L_step_13 : decode cd_L_step 13 = .ok (.iconst 1, 1) := by decide +kernel
theorem dc_L_step_14 : decode cd_L_step 14 = .ok (.ireturn, 1) := by decide +kernel
theorem dc_L_step_15 : decode cd_L_step 15 = .ok (.iconst 0, 1) := by decide +kernel
theorem dc_L_step_16 : decode cd_L_step 16 = .ok (.ireturn, 1) := by decide +kernel
theorem dc_L_run_0 : decode cd_L_run 0 = .ok (.aload_n 3, 1) := by decide +kernel
theorem dc_L_run_1 : decode cd_L_run 1 = .ok (.iconst 0, 1) := by decide +kernel
theorem dc_L_run_2 : decode cd_L_run 2 = .ok (.aload_n 0, 1) := by decide +kernel
theorem dc_L_run_3 : decode cd_L_run 3 = .ok (.iload_n 1, 1) := by decide +kernel
theorem dc_L_run_4 : decode cd_L_run 4 = .ok (.iload_n 2, 1) := by decide +kernel
theorem dc_L_run_5 : decode cd_L_run 5 = .ok (.invokevirtual 23, 3) := by decide +kernel
theorem dc_L_run_8 : decode cd_L_run 8 = .ok (.i2l, 1) := by decide +kernel
theorem dc_L_run_9 : decode cd_L_run 9 = .ok (.lastore, 1) := by decide +kernel
theorem dc_L_run_10 : decode cd_L_run 10 = .ok (.goto 7, 3) := by decide +kernel
theorem dc_L_run_13 : decode cd_L_run 13 = .ok (.astore 4, 2) := by decide +kernel
theorem dc_L_run_15 : decode cd_L_run 15 = .ok (.iconst 1, 1) := by decide +kernel
theorem dc_L_run_16 : decode cd_L_run 16 = .ok (.ireturn, 1) := by decide +kernel
theorem dc_L_run_17 : decode cd_L_run 17 = .ok (.iconst 0, 1) := by decide +kernel
theorem dc_L_run_18 : decode cd_L_run 18 = .ok (.ireturn, 1) := by decide +kernel
theorem dc_L_done_0 : decode cd_L_done 0 = .ok (.aload_n 2, 1) := by decide +kernel
theorem dc_L_done_1 : decode cd_L_done 1 = .ok (.iconst 0, 1) := by decide +kernel
theorem dc_L_done_2 : decode cd_L_done 2 = .ok (.aload_n 0, 1) := by decide +kernel
theorem dc_L_done_3 : decode cd_L_done 3 = .ok (.iload_n 1, 1) := by decide +kernel
theorem dc_L_done_4 : decode cd_L_done 4 = .ok (.invokevirtual 27, 3) := by decide +kernel
theorem dc_L_done_7 : decode cd_L_done 7 = .ok (.i2l, 1) := by decide +kernel
theorem dc_L_done_8 : decode cd_L_done 8 = .ok (.lastore, 1) := by decide +kernel
theorem dc_L_done_9 : decode cd_L_done 9 = .ok (.goto 6, 3) := by decide +kernel
theorem dc_L_done_12 : decode cd_L_done 12 = .ok (.astore_n 3, 1) := by decide +kernel
theorem dc_L_done_13 : decode cd_L_done 13 = .ok (.iconst 1, 1) := by decide +kernel
theorem dc_L_done_14 : decode cd_L_done 14 = .ok (.ireturn, 1) := by decide +kernel
theorem dc_L_done_15 : decode cd_L_done 15 = .ok (.iconst 0, 1) := by decide +kernel
theorem dc_L_done_16 : decode cd_L_done 16 = .ok (.ireturn, 1) := by decide +kernel
theorem dc_L_answer_0 : decode cd_L_answer 0 = .ok (.aload_n 2, 1) := by decide +kernel
theorem dc_L_answer_1 : decode cd_L_answer 1 = .ok (.iconst 0, 1) := by decide +kernel
theorem dc_L_answer_2 : decode cd_L_answer 2 = .ok (.aload_n 0, 1) := by decide +kernel
theorem dc_L_answer_3 : decode cd_L_answer 3 = .ok (.iload_n 1, 1) := by decide +kernel
theorem dc_L_answer_4 : decode cd_L_answer 4 = .ok (.invokevirtual 30, 3) := by decide +kernel
theorem dc_L_answer_7 : decode cd_L_answer 7 = .ok (.i2l, 1) := by decide +kernel
theorem dc_L_answer_8 : decode cd_L_answer 8 = .ok (.lastore, 1) := by decide +kernel
theorem dc_L_answer_9 : decode cd_L_answer 9 = .ok (.goto 9, 3) := by decide +kernel
theorem dc_L_answer_12 : decode cd_L_answer 12 = .ok (.astore_n 3, 1) := by decide +kernel
theorem dc_L_answer_13 : decode cd_L_answer 13 = .ok (.iconst 1, 1) := by decide +kernel
theorem dc_L_answer_14 : decode cd_L_answer 14 = .ok (.ireturn, 1) := by decide +kernel
theorem dc_L_answer_15 : decode cd_L_answer 15 = .ok (.astore_n 3, 1) := by decide +kernel
theorem dc_L_answer_16 : decode cd_L_answer 16 = .ok (.iconst 2, 1) := by decide +kernel
theorem dc_L_answer_17 : decode cd_L_answer 17 = .ok (.ireturn, 1) := by decide +kernel
theorem dc_L_answer_18 : decode cd_L_answer 18 = .ok (.iconst 0, 1) := by decide +kernel
theorem dc_L_answer_19 : decode cd_L_answer 19 = .ok (.ireturn, 1) := by decide +kernel
theorem dc_L_placeOf_0 : decode cd_L_placeOf 0 = .ok (.aload_n 2, 1) := by decide +kernel
theorem dc_L_placeOf_1 : decode cd_L_placeOf 1 = .ok (.iconst 0, 1) := by decide +kernel
theorem dc_L_placeOf_2 : decode cd_L_placeOf 2 = .ok (.aload_n 0, 1) := by decide +kernel
theorem dc_L_placeOf_3 : decode cd_L_placeOf 3 = .ok (.iload_n 1, 1) := by decide +kernel
theorem dc_L_placeOf_4 : decode cd_L_placeOf 4 = .ok (.invokevirtual 33, 3) := by decide +kernel
theorem dc_L_placeOf_7 : decode cd_L_placeOf 7 = .ok (.i2l, 1) := by decide +kernel
theorem dc_L_placeOf_8 : decode cd_L_placeOf 8 = .ok (.lastore, 1) := by decide +kernel
theorem dc_L_placeOf_9 : decode cd_L_placeOf 9 = .ok (.goto 6, 3) := by decide +kernel
theorem dc_L_placeOf_12 : decode cd_L_placeOf 12 = .ok (.astore_n 3, 1) := by decide +kernel
theorem dc_L_placeOf_13 : decode cd_L_placeOf 13 = .ok (.iconst 1, 1) := by decide +kernel
theorem dc_L_placeOf_14 : decode cd_L_placeOf 14 = .ok (.ireturn, 1) := by decide +kernel
theorem dc_L_placeOf_15 : decode cd_L_placeOf 15 = .ok (.iconst 0, 1) := by decide +kernel
theorem dc_L_placeOf_16 : decode cd_L_placeOf 16 = .ok (.ireturn, 1) := by decide +kernel
theorem dc_L_node_0 : decode cd_L_node 0 = .ok (.aload_n 3, 1) := by decide +kernel
theorem dc_L_node_1 : decode cd_L_node 1 = .ok (.iconst 0, 1) := by decide +kernel
theorem dc_L_node_2 : decode cd_L_node 2 = .ok (.aload_n 0, 1) := by decide +kernel
theorem dc_L_node_3 : decode cd_L_node 3 = .ok (.iload_n 1, 1) := by decide +kernel
theorem dc_L_node_4 : decode cd_L_node 4 = .ok (.iload_n 2, 1) := by decide +kernel
theorem dc_L_node_5 : decode cd_L_node 5 = .ok (.invokevirtual 36, 3) := by decide +kernel
theorem dc_L_node_8 : decode cd_L_node 8 = .ok (.i2l, 1) := by decide +kernel
theorem dc_L_node_9 : decode cd_L_node 9 = .ok (.lastore, 1) := by decide +kernel
theorem dc_L_node_10 : decode cd_L_node 10 = .ok (.goto 11, 3) := by decide +kernel
theorem dc_L_node_13 : decode cd_L_node 13 = .ok (.astore 4, 2) := by decide +kernel
theorem dc_L_node_15 : decode cd_L_node 15 = .ok (.iconst 1, 1) := by decide +kernel
theorem dc_L_node_16 : decode cd_L_node 16 = .ok (.ireturn, 1) := by decide +kernel
theorem dc_L_node_17 : decode cd_L_node 17 = .ok (.astore 4, 2) := by decide +kernel
theorem dc_L_node_19 : decode cd_L_node 19 = .ok (.iconst 2, 1) := by decide +kernel
theorem dc_L_node_20 : decode cd_L_node 20 = .ok (.ireturn, 1) := by decide +kernel
theorem dc_L_node_21 : decode cd_L_node 21 = .ok (.iconst 0, 1) := by decide +kernel
theorem dc_L_node_22 : decode cd_L_node 22 = .ok (.ireturn, 1) := by decide +kernel
theorem dc_L_stage_0 : decode cd_L_stage 0 = .ok (.aload_n 2, 1) := by decide +kernel
theorem dc_L_stage_1 : decode cd_L_stage 1 = .ok (.iconst 0, 1) := by decide +kernel
theorem dc_L_stage_2 : decode cd_L_stage 2 = .ok (.aload_n 0, 1) := by decide +kernel
theorem dc_L_stage_3 : decode cd_L_stage 3 = .ok (.iload_n 1, 1) := by decide +kernel
theorem dc_L_stage_4 : decode cd_L_stage 4 = .ok (.invokevirtual 41, 3) := by decide +kernel
theorem dc_L_stage_7 : decode cd_L_stage 7 = .ok (.i2l, 1) := by decide +kernel
theorem dc_L_stage_8 : decode cd_L_stage 8 = .ok (.lastore, 1) := by decide +kernel
theorem dc_L_stage_9 : decode cd_L_stage 9 = .ok (.goto 6, 3) := by decide +kernel
theorem dc_L_stage_12 : decode cd_L_stage 12 = .ok (.astore_n 3, 1) := by decide +kernel
theorem dc_L_stage_13 : decode cd_L_stage 13 = .ok (.iconst 1, 1) := by decide +kernel
theorem dc_L_stage_14 : decode cd_L_stage 14 = .ok (.ireturn, 1) := by decide +kernel
theorem dc_L_stage_15 : decode cd_L_stage 15 = .ok (.iconst 0, 1) := by decide +kernel
theorem dc_L_stage_16 : decode cd_L_stage 16 = .ok (.ireturn, 1) := by decide +kernel
theorem dc_L_head_0 : decode cd_L_head 0 = .ok (.aload_n 2, 1) := by decide +kernel
theorem dc_L_head_1 : decode cd_L_head 1 = .ok (.iconst 0, 1) := by decide +kernel
theorem dc_L_head_2 : decode cd_L_head 2 = .ok (.aload_n 0, 1) := by decide +kernel
theorem dc_L_head_3 : decode cd_L_head 3 = .ok (.iload_n 1, 1) := by decide +kernel
theorem dc_L_head_4 : decode cd_L_head 4 = .ok (.invokevirtual 44, 3) := by decide +kernel
theorem dc_L_head_7 : decode cd_L_head 7 = .ok (.i2l, 1) := by decide +kernel
theorem dc_L_head_8 : decode cd_L_head 8 = .ok (.lastore, 1) := by decide +kernel
theorem dc_L_head_9 : decode cd_L_head 9 = .ok (.goto 6, 3) := by decide +kernel
theorem dc_L_head_12 : decode cd_L_head 12 = .ok (.astore_n 3, 1) := by decide +kernel
theorem dc_L_head_13 : decode cd_L_head 13 = .ok (.iconst 1, 1) := by decide +kernel
theorem dc_L_head_14 : decode cd_L_head 14 = .ok (.ireturn, 1) := by decide +kernel
theorem dc_L_head_15 : decode cd_L_head 15 = .ok (.iconst 0, 1) := by decide +kernel
theorem dc_L_head_16 : decode cd_L_head 16 = .ok (.ireturn, 1) := by decide +kernel
theorem dc_L_peek_0 : decode cd_L_peek 0 = .ok (.aload 4, 2) := by decide +kernel
theorem dc_L_peek_2 : decode cd_L_peek 2 = .ok (.iconst 0, 1) := by decide +kernel
theorem dc_L_peek_3 : decode cd_L_peek 3 = .ok (.aload_n 0, 1) := by decide +kernel
theorem dc_L_peek_4 : decode cd_L_peek 4 = .ok (.iload_n 1, 1) := by decide +kernel
theorem dc_L_peek_5 : decode cd_L_peek 5 = .ok (.iload_n 2, 1) := by decide +kernel
theorem dc_L_peek_6 : decode cd_L_peek 6 = .ok (.iload_n 3, 1) := by decide +kernel
theorem dc_L_peek_7 : decode cd_L_peek 7 = .ok (.invokevirtual 47, 3) := by decide +kernel
theorem dc_L_peek_10 : decode cd_L_peek 10 = .ok (.i2l, 1) := by decide +kernel
theorem dc_L_peek_11 : decode cd_L_peek 11 = .ok (.lastore, 1) := by decide +kernel
theorem dc_L_peek_12 : decode cd_L_peek 12 = .ok (.goto 7, 3) := by decide +kernel
theorem dc_L_peek_15 : decode cd_L_peek 15 = .ok (.astore 5, 2) := by decide +kernel
theorem dc_L_peek_17 : decode cd_L_peek 17 = .ok (.iconst 1, 1) := by decide +kernel
theorem dc_L_peek_18 : decode cd_L_peek 18 = .ok (.ireturn, 1) := by decide +kernel
theorem dc_L_peek_19 : decode cd_L_peek 19 = .ok (.iconst 0, 1) := by decide +kernel
theorem dc_L_peek_20 : decode cd_L_peek 20 = .ok (.ireturn, 1) := by decide +kernel
theorem dc_L_plain_0 : decode cd_L_plain 0 = .ok (.aload 4, 2) := by decide +kernel
theorem dc_L_plain_2 : decode cd_L_plain 2 = .ok (.iconst 0, 1) := by decide +kernel
theorem dc_L_plain_3 : decode cd_L_plain 3 = .ok (.aload_n 0, 1) := by decide +kernel
theorem dc_L_plain_4 : decode cd_L_plain 4 = .ok (.iload_n 1, 1) := by decide +kernel
theorem dc_L_plain_5 : decode cd_L_plain 5 = .ok (.iload_n 2, 1) := by decide +kernel
theorem dc_L_plain_6 : decode cd_L_plain 6 = .ok (.iload_n 3, 1) := by decide +kernel
theorem dc_L_plain_7 : decode cd_L_plain 7 = .ok (.invokevirtual 51, 3) := by decide +kernel
theorem dc_L_plain_10 : decode cd_L_plain 10 = .ok (.i2l, 1) := by decide +kernel
theorem dc_L_plain_11 : decode cd_L_plain 11 = .ok (.lastore, 1) := by decide +kernel
theorem dc_L_plain_12 : decode cd_L_plain 12 = .ok (.goto 7, 3) := by decide +kernel
theorem dc_L_plain_15 : decode cd_L_plain 15 = .ok (.astore 5, 2) := by decide +kernel
theorem dc_L_plain_17 : decode cd_L_plain 17 = .ok (.iconst 1, 1) := by decide +kernel
theorem dc_L_plain_18 : decode cd_L_plain 18 = .ok (.ireturn, 1) := by decide +kernel
theorem dc_L_plain_19 : decode cd_L_plain 19 = .ok (.iconst 0, 1) := by decide +kernel
theorem dc_L_plain_20 : decode cd_L_plain 20 = .ok (.ireturn, 1) := by decide +kernel
end DEC_01z
