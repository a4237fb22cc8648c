theorem dL_cell_0 : decode cL_cell 0 = .ok (.iload_n 1, 1) := by decide +kernel
theorem dL_cell_1 : decode cL_cell 1 = .ok (.aload_n 0, 1) := by decide +kernel
theorem dL_cell_2 : decode cL_cell 2 = .ok (.arraylength, 1) := by decide +kernel
theorem dL_cell_3 : decode cL_cell 3 = .ok (.if_icmp .ge 9, 3) := by decide +kernel
theorem dL_cell_6 : decode cL_cell 6 = .ok (.aload_n 0, 1) := by decide +kernel
theorem dL_cell_7 : decode cL_cell 7 = .ok (.iload_n 1, 1) := by decide +kernel
theorem dL_cell_8 : decode cL_cell 8 = .ok (.iaload, 1) := by decide +kernel
theorem dL_cell_9 : decode cL_cell 9 = .ok (.goto 15, 3) := by decide +kernel
theorem dL_cell_12 : decode cL_cell 12 = .ok (.ldc 7, 2) := by decide +kernel
theorem dL_cell_14 : decode cL_cell 14 = .ok (.iload_n 1, 1) := by decide +kernel
theorem dL_cell_15 : decode cL_cell 15 = .ok (.sipush 4096, 3) := by decide +kernel
theorem dL_cell_18 : decode cL_cell 18 = .ok (.irem, 1) := by decide +kernel
theorem dL_cell_19 : decode cL_cell 19 = .ok (.imul, 1) := by decide +kernel
theorem dL_cell_20 : decode cL_cell 20 = .ok (.sipush 337, 3) := by decide +kernel
theorem dL_cell_23 : decode cL_cell 23 = .ok (.iadd, 1) := by decide +kernel
theorem dL_cell_24 : decode cL_cell 24 = .ok (.ldc 8, 2) := by decide +kernel
theorem dL_cell_26 : decode cL_cell 26 = .ok (.iand, 1) := by decide +kernel
theorem dL_cell_27 : decode cL_cell 27 = .ok (.ireturn, 1) := by decide +kernel
theorem dL_write_0 : decode cL_write 0 = .ok (.aload_n 0, 1) := by decide +kernel
theorem dL_write_1 : decode cL_write 1 = .ok (.iload_n 1, 1) := by decide +kernel
theorem dL_write_2 : decode cL_write 2 = .ok (.invokevirtual 9, 3) := by decide +kernel
theorem dL_write_5 : decode cL_write 5 = .ok (.ireturn, 1) := by decide +kernel
theorem dL_write_6 : decode cL_write 6 = .ok (.astore_n 2, 1) := by decide +kernel
theorem dL_write_7 : decode cL_write 7 = .ok (.ldc 17, 2) := by decide +kernel
theorem dL_write_9 : decode cL_write 9 = .ok (.ireturn, 1) := by decide +kernel
theorem dL_write_10 : decode cL_write 10 = .ok (.astore_n 2, 1) := by decide +kernel
theorem dL_write_11 : decode cL_write 11 = .ok (.ldc 20, 2) := by decide +kernel
theorem dL_write_13 : decode cL_write 13 = .ok (.ireturn, 1) := by decide +kernel
theorem dL_rub_0 : decode cL_rub 0 = .ok (.aload_n 0, 1) := by decide +kernel
theorem dL_rub_1 : decode cL_rub 1 = .ok (.invokevirtual 21, 3) := by decide +kernel
theorem dL_rub_4 : decode cL_rub 4 = .ok (.ireturn, 1) := by decide +kernel
theorem dL_rub_5 : decode cL_rub 5 = .ok (.astore_n 1, 1) := by decide +kernel
theorem dL_rub_6 : decode cL_rub 6 = .ok (.ldc 17, 2) := by decide +kernel
theorem dL_rub_8 : decode cL_rub 8 = .ok (.ireturn, 1) := by decide +kernel
theorem dL_swap_0 : decode cL_swap 0 = .ok (.aload_n 0, 1) := by decide +kernel
theorem dL_swap_1 : decode cL_swap 1 = .ok (.invokevirtual 25, 3) := by decide +kernel
theorem dL_swap_4 : decode cL_swap 4 = .ok (.ireturn, 1) := by decide +kernel
theorem dL_swap_5 : decode cL_swap 5 = .ok (.astore_n 1, 1) := by decide +kernel
theorem dL_swap_6 : decode cL_swap 6 = .ok (.ldc 17, 2) := by decide +kernel
theorem dL_swap_8 : decode cL_swap 8 = .ok (.ireturn, 1) := by decide +kernel
theorem dL_goTo_0 : decode cL_goTo 0 = .ok (.aload_n 0, 1) := by decide +kernel
theorem dL_goTo_1 : decode cL_goTo 1 = .ok (.iload_n 1, 1) := by decide +kernel
theorem dL_goTo_2 : decode cL_goTo 2 = .ok (.invokevirtual 28, 3) := by decide +kernel
theorem dL_goTo_5 : decode cL_goTo 5 = .ok (.ireturn, 1) := by decide +kernel
theorem dL_goTo_6 : decode cL_goTo 6 = .ok (.astore_n 2, 1) := by decide +kernel
theorem dL_goTo_7 : decode cL_goTo 7 = .ok (.ldc 17, 2) := by decide +kernel
theorem dL_goTo_9 : decode cL_goTo 9 = .ok (.ireturn, 1) := by decide +kernel
theorem dL_lines_0 : decode cL_lines 0 = .ok (.aload_n 0, 1) := by decide +kernel
theorem dL_lines_1 : decode cL_lines 1 = .ok (.iload_n 1, 1) := by decide +kernel
theorem dL_lines_2 : decode cL_lines 2 = .ok (.invokevirtual 31, 3) := by decide +kernel
theorem dL_lines_5 : decode cL_lines 5 = .ok (.ireturn, 1) := by decide +kernel
theorem dL_lines_6 : decode cL_lines 6 = .ok (.astore_n 2, 1) := by decide +kernel
theorem dL_lines_7 : decode cL_lines 7 = .ok (.ldc 17, 2) := by decide +kernel
theorem dL_lines_9 : decode cL_lines 9 = .ok (.ireturn, 1) := by decide +kernel
theorem dL_lines_10 : decode cL_lines 10 = .ok (.astore_n 2, 1) := by decide +kernel
theorem dL_lines_11 : decode cL_lines 11 = .ok (.ldc 20, 2) := by decide +kernel
theorem dL_lines_13 : decode cL_lines 13 = .ok (.ireturn, 1) := by decide +kernel
theorem dL_exchange_0 : decode cL_exchange 0 = .ok (.aload_n 0, 1) := by decide +kernel
theorem dL_exchange_1 : decode cL_exchange 1 = .ok (.invokevirtual 34, 3) := by decide +kernel
theorem dL_exchange_4 : decode cL_exchange 4 = .ok (.ireturn, 1) := by decide +kernel
theorem dL_exchange_5 : decode cL_exchange 5 = .ok (.astore_n 1, 1) := by decide +kernel
theorem dL_exchange_6 : decode cL_exchange 6 = .ok (.ldc 17, 2) := by decide +kernel
theorem dL_exchange_8 : decode cL_exchange 8 = .ok (.ireturn, 1) := by decide +kernel
theorem dL_word_0 : decode cL_word 0 = .ok (.aload_n 0, 1) := by decide +kernel
theorem dL_word_1 : decode cL_word 1 = .ok (.invokevirtual 40, 3) := by decide +kernel
theorem dL_word_4 : decode cL_word 4 = .ok (.ireturn, 1) := by decide +kernel
theorem dL_word_5 : decode cL_word 5 = .ok (.astore_n 1, 1) := by decide +kernel
theorem dL_word_6 : decode cL_word 6 = .ok (.ldc 17, 2) := by decide +kernel
theorem dL_word_8 : decode cL_word 8 = .ok (.ireturn, 1) := by decide +kernel
theorem dL_ahead_0 : decode cL_ahead 0 = .ok (.aload_n 0, 1) := by decide +kernel
theorem dL_ahead_1 : decode cL_ahead 1 = .ok (.invokevirtual 43, 3) := by decide +kernel
theorem dL_ahead_4 : decode cL_ahead 4 = .ok (.ireturn, 1) := by decide +kernel
theorem dL_ahead_5 : decode cL_ahead 5 = .ok (.astore_n 1, 1) := by decide +kernel
theorem dL_ahead_6 : decode cL_ahead 6 = .ok (.ldc 17, 2) := by decide +kernel
theorem dL_ahead_8 : decode cL_ahead 8 = .ok (.ireturn, 1) := by decide +kernel
theorem dL_line_0 : decode cL_line 0 = .ok (.aload_n 0, 1) := by decide +kernel
theorem dL_line_1 : decode cL_line 1 = .ok (.invokevirtual 46, 3) := by decide +kernel
theorem dL_line_4 : decode cL_line 4 = .ok (.ireturn, 1) := by decide +kernel
theorem dL_line_5 : decode cL_line 5 = .ok (.astore_n 1, 1) := by decide +kernel
theorem dL_line_6 : decode cL_line 6 = .ok (.ldc 17, 2) := by decide +kernel
theorem dL_line_8 : decode cL_line 8 = .ok (.ireturn, 1) := by decide +kernel
theorem dL_between_0 : decode cL_between 0 = .ok (.aload_n 0, 1) := by decide +kernel
theorem dL_between_1 : decode cL_between 1 = .ok (.invokevirtual 49, 3) := by decide +kernel
theorem dL_between_4 : decode cL_between 4 = .ok (.ireturn, 1) := by decide +kernel
theorem dL_between_5 : decode cL_between 5 = .ok (.astore_n 1, 1) := by decide +kernel
theorem dL_between_6 : decode cL_between 6 = .ok (.ldc 17, 2) := by decide +kernel
theorem dL_between_8 : decode cL_between 8 = .ok (.ireturn, 1) := by decide +kernel
theorem dL_copy_0 : decode cL_copy 0 = .ok (.aload_n 0, 1) := by decide +kernel
theorem dL_copy_1 : decode cL_copy 1 = .ok (.invokevirtual 52, 3) := by decide +kernel
theorem dL_copy_4 : decode cL_copy 4 = .ok (.ireturn, 1) := by decide +kernel
theorem dL_copy_5 : decode cL_copy 5 = .ok (.astore_n 1, 1) := by decide +kernel
theorem dL_copy_6 : decode cL_copy 6 = .ok (.ldc 17, 2) := by decide +kernel
theorem dL_copy_8 : decode cL_copy 8 = .ok (.ireturn, 1) := by decide +kernel
theorem dL_yank_0 : decode cL_yank 0 = .ok (.aload_n 0, 1) := by decide +kernel
theorem dL_yank_1 : decode cL_yank 1 = .ok (.invokevirtual 55, 3) := by decide +kernel
theorem dL_yank_4 : decode cL_yank 4 = .ok (.ireturn, 1) := by decide +kernel
theorem dL_yank_5 : decode cL_yank 5 = .ok (.astore_n 1, 1) := by decide +kernel
theorem dL_yank_6 : decode cL_yank 6 = .ok (.ldc 17, 2) := by decide +kernel
theorem dL_yank_8 : decode cL_yank 8 = .ok (.ireturn, 1) := by decide +kernel
theorem dL_other_0 : decode cL_other 0 = .ok (.aload_n 0, 1) := by decide +kernel
theorem dL_other_1 : decode cL_other 1 = .ok (.invokevirtual 58, 3) := by decide +kernel
theorem dL_other_4 : decode cL_other 4 = .ok (.ireturn, 1) := by decide +kernel
theorem dL_other_5 : decode cL_other 5 = .ok (.astore_n 1, 1) := by decide +kernel
theorem dL_other_6 : decode cL_other 6 = .ok (.ldc 17, 2) := by decide +kernel
theorem dL_other_8 : decode cL_other 8 = .ok (.ireturn, 1) := by decide +kernel
theorem dL_turn_0 : decode cL_turn 0 = .ok (.aload_n 0, 1) := by decide +kernel
theorem dL_turn_1 : decode cL_turn 1 = .ok (.iload_n 1, 1) := by decide +kernel
theorem dL_turn_2 : decode cL_turn 2 = .ok (.invokevirtual 61, 3) := by decide +kernel
theorem dL_turn_5 : decode cL_turn 5 = .ok (.ireturn, 1) := by decide +kernel
theorem dL_turn_6 : decode cL_turn 6 = .ok (.astore_n 2, 1) := by decide +kernel
theorem dL_turn_7 : decode cL_turn 7 = .ok (.ldc 17, 2) := by decide +kernel
theorem dL_turn_9 : decode cL_turn 9 = .ok (.ireturn, 1) := by decide +kernel
theorem dL_turn_10 : decode cL_turn 10 = .ok (.astore_n 2, 1) := by decide +kernel
theorem dL_turn_11 : decode cL_turn 11 = .ok (.ldc 20, 2) := by decide +kernel
theorem dL_turn_13 : decode cL_turn 13 = .ok (.ireturn, 1) := by decide +kernel
theorem dL_caves_0 : decode cL_caves 0 = .ok (.aload_n 0, 1) := by decide +kernel
theorem dL_caves_1 : decode cL_caves 1 = .ok (.iload_n 1, 1) := by decide +kernel
theorem dL_caves_2 : decode cL_caves 2 = .ok (.invokevirtual 64, 3) := by decide +kernel
theorem dL_caves_5 : decode cL_caves 5 = .ok (.ireturn, 1) := by decide +kernel
theorem dL_caves_6 : decode cL_caves 6 = .ok (.astore_n 2, 1) := by decide +kernel
theorem dL_caves_7 : decode cL_caves 7 = .ok (.ldc 17, 2) := by decide +kernel
theorem dL_caves_9 : decode cL_caves 9 = .ok (.ireturn, 1) := by decide +kernel
theorem dL_append_0 : decode cL_append 0 = .ok (.aload_n 0, 1) := by decide +kernel
theorem dL_append_1 : decode cL_append 1 = .ok (.iload_n 1, 1) := by decide +kernel
theorem dL_append_2 : decode cL_append 2 = .ok (.invokevirtual 67, 3) := by decide +kernel
theorem dL_append_5 : decode cL_append 5 = .ok (.ireturn, 1) := by decide +kernel
theorem dL_append_6 : decode cL_append 6 = .ok (.astore_n 2, 1) := by decide +kernel
theorem dL_append_7 : decode cL_append 7 = .ok (.ldc 17, 2) := by decide +kernel
theorem dL_append_9 : decode cL_append 9 = .ok (.ireturn, 1) := by decide +kernel
theorem dL_append_10 : decode cL_append 10 = .ok (.astore_n 2, 1) := by decide +kernel
theorem dL_append_11 : decode cL_append 11 = .ok (.ldc 20, 2) := by decide +kernel
theorem dL_append_13 : decode cL_append 13 = .ok (.ireturn, 1) := by decide +kernel
theorem dL_perform_0 : decode cL_perform 0 = .ok (.aload_n 0, 1) := by decide +kernel
theorem dL_perform_1 : decode cL_perform 1 = .ok (.invokevirtual 70, 3) := by decide +kernel
theorem dL_perform_4 : decode cL_perform 4 = .ok (.ireturn, 1) := by decide +kernel
theorem dL_perform_5 : decode cL_perform 5 = .ok (.astore_n 1, 1) := by decide +kernel
theorem dL_perform_6 : decode cL_perform 6 = .ok (.ldc 17, 2) := by decide +kernel
theorem dL_perform_8 : decode cL_perform 8 = .ok (.ireturn, 1) := by decide +kernel
theorem dL_perform_9 : decode cL_perform 9 = .ok (.astore_n 1, 1) := by decide +kernel
theorem dL_perform_10 : decode cL_perform 10 = .ok (.ldc 20, 2) := by decide +kernel
theorem dL_perform_12 : decode cL_perform 12 = .ok (.ireturn, 1) := by decide +kernel
theorem dL_keep_0 : decode cL_keep 0 = .ok (.aload_n 0, 1) := by decide +kernel
theorem dL_keep_1 : decode cL_keep 1 = .ok (.iload_n 1, 1) := by decide +kernel
theorem dL_keep_2 : decode cL_keep 2 = .ok (.invokevirtual 73, 3) := by decide +kernel
theorem dL_keep_5 : decode cL_keep 5 = .ok (.iconst 0, 1) := by decide +kernel
theorem dL_keep_6 : decode cL_keep 6 = .ok (.ireturn, 1) := by decide +kernel
theorem dL_keep_7 : decode cL_keep 7 = .ok (.astore_n 2, 1) := by decide +kernel
theorem dL_keep_8 : decode cL_keep 8 = .ok (.ldc 17, 2) := by decide +kernel
theorem dL_keep_10 : decode cL_keep 10 = .ok (.ireturn, 1) := by decide +kernel
theorem dL_back_0 : decode cL_back 0 = .ok (.aload_n 0, 1) := by decide +kernel
theorem dL_back_1 : decode cL_back 1 = .ok (.iload_n 1, 1) := by decide +kernel
theorem dL_back_2 : decode cL_back 2 = .ok (.invokevirtual 77, 3) := by decide +kernel
theorem dL_back_5 : decode cL_back 5 = .ok (.iconst 0, 1) := by decide +kernel
theorem dL_back_6 : decode cL_back 6 = .ok (.ireturn, 1) := by decide +kernel
theorem dL_back_7 : decode cL_back 7 = .ok (.astore_n 2, 1) := by decide +kernel
theorem dL_back_8 : decode cL_back 8 = .ok (.ldc 17, 2) := by decide +kernel
theorem dL_back_10 : decode cL_back 10 = .ok (.ireturn, 1) := by decide +kernel
theorem dL_back_11 : decode cL_back 11 = .ok (.astore_n 2, 1) := by decide +kernel
theorem dL_back_12 : decode cL_back 12 = .ok (.ldc 20, 2) := by decide +kernel
theorem dL_back_14 : decode cL_back 14 = .ok (.ireturn, 1) := by decide +kernel
theorem dL_undo_0 : decode cL_undo 0 = .ok (.aload_n 0, 1) := by decide +kernel
theorem dL_undo_1 : decode cL_undo 1 = .ok (.invokevirtual 80, 3) := by decide +kernel
theorem dL_undo_4 : decode cL_undo 4 = .ok (.iconst 0, 1) := by decide +kernel
theorem dL_undo_5 : decode cL_undo 5 = .ok (.ireturn, 1) := by decide +kernel
theorem dL_undo_6 : decode cL_undo 6 = .ok (.astore_n 1, 1) := by decide +kernel
theorem dL_undo_7 : decode cL_undo 7 = .ok (.ldc 17, 2) := by decide +kernel
theorem dL_undo_9 : decode cL_undo 9 = .ok (.ireturn, 1) := by decide +kernel
theorem dL_code_0 : decode cL_code 0 = .ok (.aload_n 0, 1) := by decide +kernel
theorem dL_code_1 : decode cL_code 1 = .ok (.iload_n 1, 1) := by decide +kernel
theorem dL_code_2 : decode cL_code 2 = .ok (.invokevirtual 83, 3) := by decide +kernel
theorem dL_code_5 : decode cL_code 5 = .ok (.ireturn, 1) := by decide +kernel
theorem dL_code_6 : decode cL_code 6 = .ok (.astore_n 2, 1) := by decide +kernel
theorem dL_code_7 : decode cL_code 7 = .ok (.ldc 17, 2) := by decide +kernel
theorem dL_code_9 : decode cL_code 9 = .ok (.ireturn, 1) := by decide +kernel
theorem dL_markAt_0 : decode cL_markAt 0 = .ok (.aload_n 0, 1) := by decide +kernel
theorem dL_markAt_1 : decode cL_markAt 1 = .ok (.invokevirtual 88, 3) := by decide +kernel
theorem dL_markAt_4 : decode cL_markAt 4 = .ok (.ireturn, 1) := by decide +kernel
theorem dL_markAt_5 : decode cL_markAt 5 = .ok (.astore_n 1, 1) := by decide +kernel
theorem dL_markAt_6 : decode cL_markAt 6 = .ok (.ldc 17, 2) := by decide +kernel
theorem dL_markAt_8 : decode cL_markAt 8 = .ok (.ireturn, 1) := by decide +kernel
theorem dL_apart_0 : decode cL_apart 0 = .ok (.aload_n 0, 1) := by decide +kernel
theorem dL_apart_1 : decode cL_apart 1 = .ok (.invokevirtual 91, 3) := by decide +kernel
theorem dL_apart_4 : decode cL_apart 4 = .ok (.ireturn, 1) := by decide +kernel
theorem dL_apart_5 : decode cL_apart 5 = .ok (.astore_n 1, 1) := by decide +kernel
theorem dL_apart_6 : decode cL_apart 6 = .ok (.ldc 17, 2) := by decide +kernel
theorem dL_apart_8 : decode cL_apart 8 = .ok (.ireturn, 1) := by decide +kernel
theorem dL_hoard_0 : decode cL_hoard 0 = .ok (.aload_n 0, 1) := by decide +kernel
theorem dL_hoard_1 : decode cL_hoard 1 = .ok (.iload_n 1, 1) := by decide +kernel
theorem dL_hoard_2 : decode cL_hoard 2 = .ok (.invokevirtual 94, 3) := by decide +kernel
theorem dL_hoard_5 : decode cL_hoard 5 = .ok (.ireturn, 1) := by decide +kernel
theorem dL_hoard_6 : decode cL_hoard 6 = .ok (.astore_n 2, 1) := by decide +kernel
theorem dL_hoard_7 : decode cL_hoard 7 = .ok (.ldc 17, 2) := by decide +kernel
theorem dL_hoard_9 : decode cL_hoard 9 = .ok (.ireturn, 1) := by decide +kernel
theorem dL_codeIn_0 : decode cL_codeIn 0 = .ok (.aload_n 0, 1) := by decide +kernel
theorem dL_codeIn_1 : decode cL_codeIn 1 = .ok (.iload_n 1, 1) := by decide +kernel
theorem dL_codeIn_2 : decode cL_codeIn 2 = .ok (.iload_n 2, 1) := by decide +kernel
theorem dL_codeIn_3 : decode cL_codeIn 3 = .ok (.invokevirtual 97, 3) := by decide +kernel
theorem dL_codeIn_6 : decode cL_codeIn 6 = .ok (.ireturn, 1) := by decide +kernel
theorem dL_codeIn_7 : decode cL_codeIn 7 = .ok (.astore_n 3, 1) := by decide +kernel
theorem dL_codeIn_8 : decode cL_codeIn 8 = .ok (.ldc 17, 2) := by decide +kernel
theorem dL_codeIn_10 : decode cL_codeIn 10 = .ok (.ireturn, 1) := by decide +kernel
theorem dL_next_0 : decode cL_next 0 = .ok (.aload_n 0, 1) := by decide +kernel
theorem dL_next_1 : decode cL_next 1 = .ok (.invokevirtual 101, 3) := by decide +kernel
theorem dL_next_4 : decode cL_next 4 = .ok (.ireturn, 1) := by decide +kernel
theorem dL_next_5 : decode cL_next 5 = .ok (.astore_n 1, 1) := by decide +kernel
theorem dL_next_6 : decode cL_next 6 = .ok (.ldc 17, 2) := by decide +kernel
theorem dL_next_8 : decode cL_next 8 = .ok (.ireturn, 1) := by decide +kernel
theorem dL_ifYanked_0 : decode cL_ifYanked 0 = .ok (.aload_n 0, 1) := by decide +kernel
theorem dL_ifYanked_1 : decode cL_ifYanked 1 = .ok (.iload_n 1, 1) := by decide +kernel
theorem dL_ifYanked_2 : decode cL_ifYanked 2 = .ok (.invokevirtual 104, 3) := by decide +kernel
theorem dL_ifYanked_5 : decode cL_ifYanked 5 = .ok (.ireturn, 1) := by decide +kernel
theorem dL_ifYanked_6 : decode cL_ifYanked 6 = .ok (.astore_n 2, 1) := by decide +kernel
theorem dL_ifYanked_7 : decode cL_ifYanked 7 = .ok (.ldc 17, 2) := by decide +kernel
theorem dL_ifYanked_9 : decode cL_ifYanked 9 = .ok (.ireturn, 1) := by decide +kernel
theorem dL_heaviest_0 : decode cL_heaviest 0 = .ok (.aload_n 0, 1) := by decide +kernel
theorem dL_heaviest_1 : decode cL_heaviest 1 = .ok (.invokevirtual 107, 3) := by decide +kernel
theorem dL_heaviest_4 : decode cL_heaviest 4 = .ok (.ireturn, 1) := by decide +kernel
theorem dL_heaviest_5 : decode cL_heaviest 5 = .ok (.astore_n 1, 1) := by decide +kernel
theorem dL_heaviest_6 : decode cL_heaviest 6 = .ok (.ldc 17, 2) := by decide +kernel
theorem dL_heaviest_8 : decode cL_heaviest 8 = .ok (.ireturn, 1) := by decide +kernel
theorem dL_acts_0 : decode cL_acts 0 = .ok (.iload_n 1, 1) := by decide +kernel
theorem dL_acts_1 : decode cL_acts 1 = .ok (.bipush 32, 2) := by decide +kernel
theorem dL_acts_3 : decode cL_acts 3 = .ok (.idiv, 1) := by decide +kernel
theorem dL_acts_4 : decode cL_acts 4 = .ok (.istore_n 2, 1) := by decide +kernel
theorem dL_acts_5 : decode cL_acts 5 = .ok (.iload_n 1, 1) := by decide +kernel
theorem dL_acts_6 : decode cL_acts 6 = .ok (.bipush 32, 2) := by decide +kernel
theorem dL_acts_8 : decode cL_acts 8 = .ok (.irem, 1) := by decide +kernel
theorem dL_acts_9 : decode cL_acts 9 = .ok (.tableswitch 307 0 29 #[135, 135, 135, 135, 135, 175, 180, 185, 190, 190, 190, 203, 208, 213, 231, 241, 241, 246, 251, 251, 256, 261, 266, 271, 271, 276, 276, 281, 286, 298], 135) := by decide +kernel
theorem dL_acts_144 : decode cL_acts 144 = .ok (.aload_n 0, 1) := by decide +kernel
theorem dL_acts_145 : decode cL_acts 145 = .ok (.iload_n 2, 1) := by decide +kernel
theorem dL_acts_146 : decode cL_acts 146 = .ok (.bipush 6, 2) := by decide +kernel
theorem dL_acts_148 : decode cL_acts 148 = .ok (.irem, 1) := by decide +kernel
theorem dL_acts_149 : decode cL_acts 149 = .ok (.ifCond .ne 8, 3) := by decide +kernel
theorem dL_acts_152 : decode cL_acts 152 = .ok (.bipush 10, 2) := by decide +kernel
theorem dL_acts_154 : decode cL_acts 154 = .ok (.goto 26, 3) := by decide +kernel
theorem dL_acts_157 : decode cL_acts 157 = .ok (.iload_n 2, 1) := by decide +kernel
theorem dL_acts_158 : decode cL_acts 158 = .ok (.bipush 6, 2) := by decide +kernel
theorem dL_acts_160 : decode cL_acts 160 = .ok (.irem, 1) := by decide +kernel
theorem dL_acts_161 : decode cL_acts 161 = .ok (.iconst 1, 1) := by decide +kernel
theorem dL_acts_162 : decode cL_acts 162 = .ok (.if_icmp .ne 8, 3) := by decide +kernel
theorem dL_acts_165 : decode cL_acts 165 = .ok (.bipush 32, 2) := by decide +kernel
theorem dL_acts_167 : decode cL_acts 167 = .ok (.goto 13, 3) := by decide +kernel
theorem dL_acts_170 : decode cL_acts 170 = .ok (.bipush 97, 2) := by decide +kernel
theorem dL_acts_172 : decode cL_acts 172 = .ok (.iload_n 2, 1) := by decide +kernel
theorem dL_acts_173 : decode cL_acts 173 = .ok (.bipush 6, 2) := by decide +kernel
theorem dL_acts_175 : decode cL_acts 175 = .ok (.idiv, 1) := by decide +kernel
theorem dL_acts_176 : decode cL_acts 176 = .ok (.bipush 20, 2) := by decide +kernel
theorem dL_acts_178 : decode cL_acts 178 = .ok (.irem, 1) := by decide +kernel
theorem dL_acts_179 : decode cL_acts 179 = .ok (.iadd, 1) := by decide +kernel
theorem dL_acts_180 : decode cL_acts 180 = .ok (.invokestatic 110, 3) := by decide +kernel
theorem dL_acts_183 : decode cL_acts 183 = .ok (.ireturn, 1) := by decide +kernel
theorem dL_acts_184 : decode cL_acts 184 = .ok (.aload_n 0, 1) := by decide +kernel
theorem dL_acts_185 : decode cL_acts 185 = .ok (.invokestatic 115, 3) := by decide +kernel
theorem dL_acts_188 : decode cL_acts 188 = .ok (.ireturn, 1) := by decide +kernel
theorem dL_acts_189 : decode cL_acts 189 = .ok (.aload_n 0, 1) := by decide +kernel
theorem dL_acts_190 : decode cL_acts 190 = .ok (.invokestatic 118, 3) := by decide +kernel
theorem dL_acts_193 : decode cL_acts 193 = .ok (.ireturn, 1) := by decide +kernel
theorem dL_acts_194 : decode cL_acts 194 = .ok (.aload_n 0, 1) := by decide +kernel
theorem dL_acts_195 : decode cL_acts 195 = .ok (.invokevirtual 120, 3) := by decide +kernel
theorem dL_acts_198 : decode cL_acts 198 = .ok (.ireturn, 1) := by decide +kernel
theorem dL_acts_199 : decode cL_acts 199 = .ok (.aload_n 0, 1) := by decide +kernel
theorem dL_acts_200 : decode cL_acts 200 = .ok (.iload_n 2, 1) := by decide +kernel
theorem dL_acts_201 : decode cL_acts 201 = .ok (.aload_n 0, 1) := by decide +kernel
theorem dL_acts_202 : decode cL_acts 202 = .ok (.invokevirtual 123, 3) := by decide +kernel
theorem dL_acts_205 : decode cL_acts 205 = .ok (.iconst 2, 1) := by decide +kernel
theorem dL_acts_206 : decode cL_acts 206 = .ok (.iadd, 1) := by decide +kernel
theorem dL_acts_207 : decode cL_acts 207 = .ok (.irem, 1) := by decide +kernel
theorem dL_acts_208 : decode cL_acts 208 = .ok (.invokestatic 126, 3) := by decide +kernel
theorem dL_acts_211 : decode cL_acts 211 = .ok (.ireturn, 1) := by decide +kernel
theorem dL_acts_212 : decode cL_acts 212 = .ok (.aload_n 0, 1) := by decide +kernel
theorem dL_acts_213 : decode cL_acts 213 = .ok (.invokevirtual 128, 3) := by decide +kernel
theorem dL_acts_216 : decode cL_acts 216 = .ok (.ireturn, 1) := by decide +kernel
theorem dL_acts_217 : decode cL_acts 217 = .ok (.aload_n 0, 1) := by decide +kernel
theorem dL_acts_218 : decode cL_acts 218 = .ok (.invokevirtual 131, 3) := by decide +kernel
theorem dL_acts_221 : decode cL_acts 221 = .ok (.ireturn, 1) := by decide +kernel
theorem dL_acts_222 : decode cL_acts 222 = .ok (.iload_n 2, 1) := by decide +kernel
theorem dL_acts_223 : decode cL_acts 223 = .ok (.iconst 2, 1) := by decide +kernel
theorem dL_acts_224 : decode cL_acts 224 = .ok (.irem, 1) := by decide +kernel
theorem dL_acts_225 : decode cL_acts 225 = .ok (.ifCond .ne 10, 3) := by decide +kernel
theorem dL_acts_228 : decode cL_acts 228 = .ok (.aload_n 0, 1) := by decide +kernel
theorem dL_acts_229 : decode cL_acts 229 = .ok (.invokevirtual 134, 3) := by decide +kernel
theorem dL_acts_232 : decode cL_acts 232 = .ok (.goto 7, 3) := by decide +kernel
theorem dL_acts_235 : decode cL_acts 235 = .ok (.aload_n 0, 1) := by decide +kernel
theorem dL_acts_236 : decode cL_acts 236 = .ok (.invokevirtual 137, 3) := by decide +kernel
theorem dL_acts_239 : decode cL_acts 239 = .ok (.ireturn, 1) := by decide +kernel
theorem dL_acts_240 : decode cL_acts 240 = .ok (.aload_n 0, 1) := by decide +kernel
theorem dL_acts_241 : decode cL_acts 241 = .ok (.iload_n 2, 1) := by decide +kernel
theorem dL_acts_242 : decode cL_acts 242 = .ok (.iconst 5, 1) := by decide +kernel
theorem dL_acts_243 : decode cL_acts 243 = .ok (.irem, 1) := by decide +kernel
theorem dL_acts_244 : decode cL_acts 244 = .ok (.iconst 2, 1) := by decide +kernel
theorem dL_acts_245 : decode cL_acts 245 = .ok (.isub, 1) := by decide +kernel
theorem dL_acts_246 : decode cL_acts 246 = .ok (.invokestatic 140, 3) := by decide +kernel
theorem dL_acts_249 : decode cL_acts 249 = .ok (.ireturn, 1) := by decide +kernel
theorem dL_acts_250 : decode cL_acts 250 = .ok (.aload_n 0, 1) := by decide +kernel
theorem dL_acts_251 : decode cL_acts 251 = .ok (.invokevirtual 143, 3) := by decide +kernel
theorem dL_acts_254 : decode cL_acts 254 = .ok (.ireturn, 1) := by decide +kernel
theorem dL_acts_255 : decode cL_acts 255 = .ok (.aload_n 0, 1) := by decide +kernel
theorem dL_acts_256 : decode cL_acts 256 = .ok (.invokestatic 146, 3) := by decide +kernel
theorem dL_acts_259 : decode cL_acts 259 = .ok (.ireturn, 1) := by decide +kernel
theorem dL_acts_260 : decode cL_acts 260 = .ok (.aload_n 0, 1) := by decide +kernel
theorem dL_acts_261 : decode cL_acts 261 = .ok (.invokestatic 148, 3) := by decide +kernel
theorem dL_acts_264 : decode cL_acts 264 = .ok (.ireturn, 1) := by decide +kernel
theorem dL_acts_265 : decode cL_acts 265 = .ok (.aload_n 0, 1) := by decide +kernel
theorem dL_acts_266 : decode cL_acts 266 = .ok (.invokestatic 151, 3) := by decide +kernel
theorem dL_acts_269 : decode cL_acts 269 = .ok (.ireturn, 1) := by decide +kernel
theorem dL_acts_270 : decode cL_acts 270 = .ok (.aload_n 0, 1) := by decide +kernel
theorem dL_acts_271 : decode cL_acts 271 = .ok (.invokestatic 154, 3) := by decide +kernel
theorem dL_acts_274 : decode cL_acts 274 = .ok (.ireturn, 1) := by decide +kernel
theorem dL_acts_275 : decode cL_acts 275 = .ok (.aload_n 0, 1) := by decide +kernel
theorem dL_acts_276 : decode cL_acts 276 = .ok (.invokestatic 157, 3) := by decide +kernel
theorem dL_acts_279 : decode cL_acts 279 = .ok (.ireturn, 1) := by decide +kernel
theorem dL_acts_280 : decode cL_acts 280 = .ok (.aload_n 0, 1) := by decide +kernel
theorem dL_acts_281 : decode cL_acts 281 = .ok (.invokestatic 159, 3) := by decide +kernel
theorem dL_acts_284 : decode cL_acts 284 = .ok (.ireturn, 1) := by decide +kernel
theorem dL_acts_285 : decode cL_acts 285 = .ok (.aload_n 0, 1) := by decide +kernel
theorem dL_acts_286 : decode cL_acts 286 = .ok (.invokestatic 162, 3) := by decide +kernel
theorem dL_acts_289 : decode cL_acts 289 = .ok (.ireturn, 1) := by decide +kernel
theorem dL_acts_290 : decode cL_acts 290 = .ok (.aload_n 0, 1) := by decide +kernel
theorem dL_acts_291 : decode cL_acts 291 = .ok (.invokestatic 164, 3) := by decide +kernel
theorem dL_acts_294 : decode cL_acts 294 = .ok (.ireturn, 1) := by decide +kernel
theorem dL_acts_295 : decode cL_acts 295 = .ok (.aload_n 0, 1) := by decide +kernel
theorem dL_acts_296 : decode cL_acts 296 = .ok (.iload_n 2, 1) := by decide +kernel
theorem dL_acts_297 : decode cL_acts 297 = .ok (.bipush 43, 2) := by decide +kernel
theorem dL_acts_299 : decode cL_acts 299 = .ok (.irem, 1) := by decide +kernel
theorem dL_acts_300 : decode cL_acts 300 = .ok (.bipush 21, 2) := by decide +kernel
theorem dL_acts_302 : decode cL_acts 302 = .ok (.isub, 1) := by decide +kernel
theorem dL_acts_303 : decode cL_acts 303 = .ok (.invokestatic 167, 3) := by decide +kernel
theorem dL_acts_306 : decode cL_acts 306 = .ok (.ireturn, 1) := by decide +kernel
theorem dL_acts_307 : decode cL_acts 307 = .ok (.aload_n 0, 1) := by decide +kernel
theorem dL_acts_308 : decode cL_acts 308 = .ok (.iload_n 2, 1) := by decide +kernel
theorem dL_acts_309 : decode cL_acts 309 = .ok (.bipush 9, 2) := by decide +kernel
theorem dL_acts_311 : decode cL_acts 311 = .ok (.irem, 1) := by decide +kernel
theorem dL_acts_312 : decode cL_acts 312 = .ok (.invokestatic 169, 3) := by decide +kernel
theorem dL_acts_315 : decode cL_acts 315 = .ok (.ireturn, 1) := by decide +kernel
theorem dL_acts_316 : decode cL_acts 316 = .ok (.aload_n 0, 1) := by decide +kernel
theorem dL_acts_317 : decode cL_acts 317 = .ok (.iload_n 2, 1) := by decide +kernel
theorem dL_acts_318 : decode cL_acts 318 = .ok (.iconst 2, 1) := by decide +kernel
theorem dL_acts_319 : decode cL_acts 319 = .ok (.irem, 1) := by decide +kernel
theorem dL_acts_320 : decode cL_acts 320 = .ok (.ifCond .ne 8, 3) := by decide +kernel
theorem dL_acts_323 : decode cL_acts 323 = .ok (.bipush 107, 2) := by decide +kernel
theorem dL_acts_325 : decode cL_acts 325 = .ok (.goto 5, 3) := by decide +kernel
theorem dL_acts_328 : decode cL_acts 328 = .ok (.bipush 51, 2) := by decide +kernel
theorem dL_acts_330 : decode cL_acts 330 = .ok (.invokestatic 172, 3) := by decide +kernel
theorem dL_acts_333 : decode cL_acts 333 = .ok (.pop, 1) := by decide +kernel
theorem dL_acts_334 : decode cL_acts 334 = .ok (.aload_n 0, 1) := by decide +kernel
theorem dL_acts_335 : decode cL_acts 335 = .ok (.bipush 39, 2) := by decide +kernel
theorem dL_acts_337 : decode cL_acts 337 = .ok (.invokestatic 172, 3) := by decide +kernel
theorem dL_acts_340 : decode cL_acts 340 = .ok (.pop, 1) := by decide +kernel
theorem dL_acts_341 : decode cL_acts 341 = .ok (.aload_n 0, 1) := by decide +kernel
theorem dL_acts_342 : decode cL_acts 342 = .ok (.bipush 98, 2) := by decide +kernel
theorem dL_acts_344 : decode cL_acts 344 = .ok (.iload_n 2, 1) := by decide +kernel
theorem dL_acts_345 : decode cL_acts 345 = .ok (.iconst 2, 1) := by decide +kernel
theorem dL_acts_346 : decode cL_acts 346 = .ok (.idiv, 1) := by decide +kernel
theorem dL_acts_347 : decode cL_acts 347 = .ok (.bipush 9, 2) := by decide +kernel
theorem dL_acts_349 : decode cL_acts 349 = .ok (.irem, 1) := by decide +kernel
theorem dL_acts_350 : decode cL_acts 350 = .ok (.iadd, 1) := by decide +kernel
theorem dL_acts_351 : decode cL_acts 351 = .ok (.invokestatic 172, 3) := by decide +kernel
theorem dL_acts_354 : decode cL_acts 354 = .ok (.pop, 1) := by decide +kernel
theorem dL_acts_355 : decode cL_acts 355 = .ok (.aload_n 0, 1) := by decide +kernel
theorem dL_acts_356 : decode cL_acts 356 = .ok (.bipush 121, 2) := by decide +kernel
theorem dL_acts_358 : decode cL_acts 358 = .ok (.invokestatic 172, 3) := by decide +kernel
theorem dL_acts_361 : decode cL_acts 361 = .ok (.pop, 1) := by decide +kernel
theorem dL_acts_362 : decode cL_acts 362 = .ok (.aload_n 0, 1) := by decide +kernel
theorem dL_acts_363 : decode cL_acts 363 = .ok (.invokestatic 174, 3) := by decide +kernel
theorem dL_acts_366 : decode cL_acts 366 = .ok (.ireturn, 1) := by decide +kernel
theorem dL_numbers_0 : decode cL_numbers 0 = .ok (.sipush 163, 3) := by decide +kernel
theorem dL_numbers_3 : decode cL_numbers 3 = .ok (.istore_n 1, 1) := by decide +kernel
theorem dL_numbers_4 : decode cL_numbers 4 = .ok (.bipush 31, 2) := by decide +kernel
theorem dL_numbers_6 : decode cL_numbers 6 = .ok (.iload_n 1, 1) := by decide +kernel
theorem dL_numbers_7 : decode cL_numbers 7 = .ok (.imul, 1) := by decide +kernel
theorem dL_numbers_8 : decode cL_numbers 8 = .ok (.aload_n 0, 1) := by decide +kernel
theorem dL_numbers_9 : decode cL_numbers 9 = .ok (.invokevirtual 123, 3) := by decide +kernel
theorem dL_numbers_12 : decode cL_numbers 12 = .ok (.iadd, 1) := by decide +kernel
theorem dL_numbers_13 : decode cL_numbers 13 = .ok (.bipush 7, 2) := by decide +kernel
theorem dL_numbers_15 : decode cL_numbers 15 = .ok (.aload_n 0, 1) := by decide +kernel
theorem dL_numbers_16 : decode cL_numbers 16 = .ok (.invokevirtual 176, 3) := by decide +kernel
theorem dL_numbers_19 : decode cL_numbers 19 = .ok (.imul, 1) := by decide +kernel
theorem dL_numbers_20 : decode cL_numbers 20 = .ok (.iadd, 1) := by decide +kernel
theorem dL_numbers_21 : decode cL_numbers 21 = .ok (.sipush 211, 3) := by decide +kernel
theorem dL_numbers_24 : decode cL_numbers 24 = .ok (.aload_n 0, 1) := by decide +kernel
theorem dL_numbers_25 : decode cL_numbers 25 = .ok (.invokestatic 179, 3) := by decide +kernel
theorem dL_numbers_28 : decode cL_numbers 28 = .ok (.imul, 1) := by decide +kernel
theorem dL_numbers_29 : decode cL_numbers 29 = .ok (.iadd, 1) := by decide +kernel
theorem dL_numbers_30 : decode cL_numbers 30 = .ok (.aload_n 0, 1) := by decide +kernel
theorem dL_numbers_31 : decode cL_numbers 31 = .ok (.invokevirtual 181, 3) := by decide +kernel
theorem dL_numbers_34 : decode cL_numbers 34 = .ok (.iadd, 1) := by decide +kernel
theorem dL_numbers_35 : decode cL_numbers 35 = .ok (.istore_n 1, 1) := by decide +kernel
theorem dL_numbers_36 : decode cL_numbers 36 = .ok (.iconst 0, 1) := by decide +kernel
theorem dL_numbers_37 : decode cL_numbers 37 = .ok (.istore_n 2, 1) := by decide +kernel
theorem dL_numbers_38 : decode cL_numbers 38 = .ok (.iload_n 2, 1) := by decide +kernel
theorem dL_numbers_39 : decode cL_numbers 39 = .ok (.aload_n 0, 1) := by decide +kernel
theorem dL_numbers_40 : decode cL_numbers 40 = .ok (.invokevirtual 123, 3) := by decide +kernel
theorem dL_numbers_43 : decode cL_numbers 43 = .ok (.if_icmp .ge 27, 3) := by decide +kernel
theorem dL_numbers_46 : decode cL_numbers 46 = .ok (.iload_n 2, 1) := by decide +kernel
theorem dL_numbers_47 : decode cL_numbers 47 = .ok (.sipush 200, 3) := by decide +kernel
theorem dL_numbers_50 : decode cL_numbers 50 = .ok (.if_icmp .ge 20, 3) := by decide +kernel
theorem dL_numbers_53 : decode cL_numbers 53 = .ok (.bipush 31, 2) := by decide +kernel
theorem dL_numbers_55 : decode cL_numbers 55 = .ok (.iload_n 1, 1) := by decide +kernel
theorem dL_numbers_56 : decode cL_numbers 56 = .ok (.imul, 1) := by decide +kernel
theorem dL_numbers_57 : decode cL_numbers 57 = .ok (.aload_n 0, 1) := by decide +kernel
theorem dL_numbers_58 : decode cL_numbers 58 = .ok (.iload_n 2, 1) := by decide +kernel
theorem dL_numbers_59 : decode cL_numbers 59 = .ok (.invokestatic 183, 3) := by decide +kernel
theorem dL_numbers_62 : decode cL_numbers 62 = .ok (.iadd, 1) := by decide +kernel
theorem dL_numbers_63 : decode cL_numbers 63 = .ok (.istore_n 1, 1) := by decide +kernel
theorem dL_numbers_64 : decode cL_numbers 64 = .ok (.iinc 2 1, 3) := by decide +kernel
theorem dL_numbers_67 : decode cL_numbers 67 = .ok (.goto (-29), 3) := by decide +kernel
theorem dL_numbers_70 : decode cL_numbers 70 = .ok (.iconst 0, 1) := by decide +kernel
theorem dL_numbers_71 : decode cL_numbers 71 = .ok (.istore_n 2, 1) := by decide +kernel
theorem dL_numbers_72 : decode cL_numbers 72 = .ok (.iload_n 2, 1) := by decide +kernel
theorem dL_numbers_73 : decode cL_numbers 73 = .ok (.aload_n 0, 1) := by decide +kernel
theorem dL_numbers_74 : decode cL_numbers 74 = .ok (.invokevirtual 186, 3) := by decide +kernel
theorem dL_numbers_77 : decode cL_numbers 77 = .ok (.if_icmp .ge 51, 3) := by decide +kernel
theorem dL_numbers_80 : decode cL_numbers 80 = .ok (.iload_n 2, 1) := by decide +kernel
theorem dL_numbers_81 : decode cL_numbers 81 = .ok (.bipush 8, 2) := by decide +kernel
theorem dL_numbers_83 : decode cL_numbers 83 = .ok (.if_icmp .ge 45, 3) := by decide +kernel
theorem dL_numbers_86 : decode cL_numbers 86 = .ok (.iconst 0, 1) := by decide +kernel
theorem dL_numbers_87 : decode cL_numbers 87 = .ok (.istore_n 3, 1) := by decide +kernel
theorem dL_numbers_88 : decode cL_numbers 88 = .ok (.iload_n 3, 1) := by decide +kernel
theorem dL_numbers_89 : decode cL_numbers 89 = .ok (.aload_n 0, 1) := by decide +kernel
theorem dL_numbers_90 : decode cL_numbers 90 = .ok (.iload_n 2, 1) := by decide +kernel
theorem dL_numbers_91 : decode cL_numbers 91 = .ok (.invokestatic 189, 3) := by decide +kernel
theorem dL_numbers_94 : decode cL_numbers 94 = .ok (.if_icmp .ge 28, 3) := by decide +kernel
theorem dL_numbers_97 : decode cL_numbers 97 = .ok (.iload_n 3, 1) := by decide +kernel
theorem dL_numbers_98 : decode cL_numbers 98 = .ok (.sipush 200, 3) := by decide +kernel
theorem dL_numbers_101 : decode cL_numbers 101 = .ok (.if_icmp .ge 21, 3) := by decide +kernel
theorem dL_numbers_104 : decode cL_numbers 104 = .ok (.bipush 31, 2) := by decide +kernel
theorem dL_numbers_106 : decode cL_numbers 106 = .ok (.iload_n 1, 1) := by decide +kernel
theorem dL_numbers_107 : decode cL_numbers 107 = .ok (.imul, 1) := by decide +kernel
theorem dL_numbers_108 : decode cL_numbers 108 = .ok (.aload_n 0, 1) := by decide +kernel
theorem dL_numbers_109 : decode cL_numbers 109 = .ok (.iload_n 2, 1) := by decide +kernel
theorem dL_numbers_110 : decode cL_numbers 110 = .ok (.iload_n 3, 1) := by decide +kernel
theorem dL_numbers_111 : decode cL_numbers 111 = .ok (.invokestatic 192, 3) := by decide +kernel
theorem dL_numbers_114 : decode cL_numbers 114 = .ok (.iadd, 1) := by decide +kernel
theorem dL_numbers_115 : decode cL_numbers 115 = .ok (.istore_n 1, 1) := by decide +kernel
theorem dL_numbers_116 : decode cL_numbers 116 = .ok (.iinc 3 1, 3) := by decide +kernel
theorem dL_numbers_119 : decode cL_numbers 119 = .ok (.goto (-31), 3) := by decide +kernel
theorem dL_numbers_122 : decode cL_numbers 122 = .ok (.iinc 2 1, 3) := by decide +kernel
theorem dL_numbers_125 : decode cL_numbers 125 = .ok (.goto (-53), 3) := by decide +kernel
theorem dL_numbers_128 : decode cL_numbers 128 = .ok (.bipush 31, 2) := by decide +kernel
theorem dL_numbers_130 : decode cL_numbers 130 = .ok (.iload_n 1, 1) := by decide +kernel
theorem dL_numbers_131 : decode cL_numbers 131 = .ok (.imul, 1) := by decide +kernel
theorem dL_numbers_132 : decode cL_numbers 132 = .ok (.aload_n 0, 1) := by decide +kernel
theorem dL_numbers_133 : decode cL_numbers 133 = .ok (.invokevirtual 195, 3) := by decide +kernel
theorem dL_numbers_136 : decode cL_numbers 136 = .ok (.iadd, 1) := by decide +kernel
theorem dL_numbers_137 : decode cL_numbers 137 = .ok (.iconst 3, 1) := by decide +kernel
theorem dL_numbers_138 : decode cL_numbers 138 = .ok (.aload_n 0, 1) := by decide +kernel
theorem dL_numbers_139 : decode cL_numbers 139 = .ok (.invokevirtual 198, 3) := by decide +kernel
theorem dL_numbers_142 : decode cL_numbers 142 = .ok (.imul, 1) := by decide +kernel
theorem dL_numbers_143 : decode cL_numbers 143 = .ok (.iadd, 1) := by decide +kernel
theorem dL_numbers_144 : decode cL_numbers 144 = .ok (.iconst 5, 1) := by decide +kernel
theorem dL_numbers_145 : decode cL_numbers 145 = .ok (.aload_n 0, 1) := by decide +kernel
theorem dL_numbers_146 : decode cL_numbers 146 = .ok (.invokevirtual 201, 3) := by decide +kernel
theorem dL_numbers_149 : decode cL_numbers 149 = .ok (.imul, 1) := by decide +kernel
theorem dL_numbers_150 : decode cL_numbers 150 = .ok (.iadd, 1) := by decide +kernel
theorem dL_numbers_151 : decode cL_numbers 151 = .ok (.bipush 7, 2) := by decide +kernel
theorem dL_numbers_153 : decode cL_numbers 153 = .ok (.aload_n 0, 1) := by decide +kernel
theorem dL_numbers_154 : decode cL_numbers 154 = .ok (.invokevirtual 204, 3) := by decide +kernel
theorem dL_numbers_157 : decode cL_numbers 157 = .ok (.imul, 1) := by decide +kernel
theorem dL_numbers_158 : decode cL_numbers 158 = .ok (.iadd, 1) := by decide +kernel
theorem dL_numbers_159 : decode cL_numbers 159 = .ok (.aload_n 0, 1) := by decide +kernel
theorem dL_numbers_160 : decode cL_numbers 160 = .ok (.invokestatic 207, 3) := by decide +kernel
theorem dL_numbers_163 : decode cL_numbers 163 = .ok (.iadd, 1) := by decide +kernel
theorem dL_numbers_164 : decode cL_numbers 164 = .ok (.ireturn, 1) := by decide +kernel
theorem dL_hangs_0 : decode cL_hangs 0 = .ok (.iconst 0, 1) := by decide +kernel
theorem dL_hangs_1 : decode cL_hangs 1 = .ok (.istore_n 1, 1) := by decide +kernel
theorem dL_hangs_2 : decode cL_hangs 2 = .ok (.aload_n 0, 1) := by decide +kernel
theorem dL_hangs_3 : decode cL_hangs 3 = .ok (.invokevirtual 123, 3) := by decide +kernel
theorem dL_hangs_6 : decode cL_hangs 6 = .ok (.aload_n 0, 1) := by decide +kernel
theorem dL_hangs_7 : decode cL_hangs 7 = .ok (.invokevirtual 210, 3) := by decide +kernel
theorem dL_hangs_10 : decode cL_hangs 10 = .ok (.if_icmp .ne 146, 3) := by decide +kernel
theorem dL_hangs_13 : decode cL_hangs 13 = .ok (.aload_n 0, 1) := by decide +kernel
theorem dL_hangs_14 : decode cL_hangs 14 = .ok (.invokevirtual 123, 3) := by decide +kernel
theorem dL_hangs_17 : decode cL_hangs 17 = .ok (.sipush 200, 3) := by decide +kernel
theorem dL_hangs_20 : decode cL_hangs 20 = .ok (.if_icmp .gt 136, 3) := by decide +kernel
theorem dL_hangs_23 : decode cL_hangs 23 = .ok (.aload_n 0, 1) := by decide +kernel
theorem dL_hangs_24 : decode cL_hangs 24 = .ok (.invokevirtual 176, 3) := by decide +kernel
theorem dL_hangs_27 : decode cL_hangs 27 = .ok (.aload_n 0, 1) := by decide +kernel
theorem dL_hangs_28 : decode cL_hangs 28 = .ok (.invokevirtual 123, 3) := by decide +kernel
theorem dL_hangs_31 : decode cL_hangs 31 = .ok (.if_icmp .gt 125, 3) := by decide +kernel
theorem dL_hangs_34 : decode cL_hangs 34 = .ok (.aload_n 0, 1) := by decide +kernel
theorem dL_hangs_35 : decode cL_hangs 35 = .ok (.invokevirtual 186, 3) := by decide +kernel
theorem dL_hangs_38 : decode cL_hangs 38 = .ok (.aload_n 0, 1) := by decide +kernel
theorem dL_hangs_39 : decode cL_hangs 39 = .ok (.invokevirtual 181, 3) := by decide +kernel
theorem dL_hangs_42 : decode cL_hangs 42 = .ok (.if_icmp .gt 114, 3) := by decide +kernel
theorem dL_hangs_45 : decode cL_hangs 45 = .ok (.aload_n 0, 1) := by decide +kernel
theorem dL_hangs_46 : decode cL_hangs 46 = .ok (.invokevirtual 213, 3) := by decide +kernel
theorem dL_hangs_49 : decode cL_hangs 49 = .ok (.aload_n 0, 1) := by decide +kernel
theorem dL_hangs_50 : decode cL_hangs 50 = .ok (.invokevirtual 216, 3) := by decide +kernel
theorem dL_hangs_53 : decode cL_hangs 53 = .ok (.if_icmp .ne 103, 3) := by decide +kernel
theorem dL_hangs_56 : decode cL_hangs 56 = .ok (.aload_n 0, 1) := by decide +kernel
theorem dL_hangs_57 : decode cL_hangs 57 = .ok (.invokevirtual 219, 3) := by decide +kernel
theorem dL_hangs_60 : decode cL_hangs 60 = .ok (.aload_n 0, 1) := by decide +kernel
theorem dL_hangs_61 : decode cL_hangs 61 = .ok (.invokevirtual 222, 3) := by decide +kernel
theorem dL_hangs_64 : decode cL_hangs 64 = .ok (.if_icmp .ne 92, 3) := by decide +kernel
theorem dL_hangs_67 : decode cL_hangs 67 = .ok (.aload_n 0, 1) := by decide +kernel
theorem dL_hangs_68 : decode cL_hangs 68 = .ok (.invokevirtual 225, 3) := by decide +kernel
theorem dL_hangs_71 : decode cL_hangs 71 = .ok (.aload_n 0, 1) := by decide +kernel
theorem dL_hangs_72 : decode cL_hangs 72 = .ok (.invokevirtual 213, 3) := by decide +kernel
theorem dL_hangs_75 : decode cL_hangs 75 = .ok (.if_icmp .ge 81, 3) := by decide +kernel
theorem dL_hangs_78 : decode cL_hangs 78 = .ok (.aload_n 0, 1) := by decide +kernel
theorem dL_hangs_79 : decode cL_hangs 79 = .ok (.invokevirtual 227, 3) := by decide +kernel
theorem dL_hangs_82 : decode cL_hangs 82 = .ok (.aload_n 0, 1) := by decide +kernel
theorem dL_hangs_83 : decode cL_hangs 83 = .ok (.invokevirtual 230, 3) := by decide +kernel
theorem dL_hangs_86 : decode cL_hangs 86 = .ok (.if_icmp .gt 70, 3) := by decide +kernel
theorem dL_hangs_89 : decode cL_hangs 89 = .ok (.aload_n 0, 1) := by decide +kernel
theorem dL_hangs_90 : decode cL_hangs 90 = .ok (.invokevirtual 227, 3) := by decide +kernel
theorem dL_hangs_93 : decode cL_hangs 93 = .ok (.aload_n 0, 1) := by decide +kernel
theorem dL_hangs_94 : decode cL_hangs 94 = .ok (.invokevirtual 176, 3) := by decide +kernel
theorem dL_hangs_97 : decode cL_hangs 97 = .ok (.if_icmp .gt 59, 3) := by decide +kernel
theorem dL_hangs_100 : decode cL_hangs 100 = .ok (.aload_n 0, 1) := by decide +kernel
theorem dL_hangs_101 : decode cL_hangs 101 = .ok (.invokestatic 179, 3) := by decide +kernel
theorem dL_hangs_104 : decode cL_hangs 104 = .ok (.aload_n 0, 1) := by decide +kernel
theorem dL_hangs_105 : decode cL_hangs 105 = .ok (.invokevirtual 123, 3) := by decide +kernel
theorem dL_hangs_108 : decode cL_hangs 108 = .ok (.if_icmp .gt 48, 3) := by decide +kernel
theorem dL_hangs_111 : decode cL_hangs 111 = .ok (.aload_n 0, 1) := by decide +kernel
theorem dL_hangs_112 : decode cL_hangs 112 = .ok (.invokestatic 179, 3) := by decide +kernel
theorem dL_hangs_115 : decode cL_hangs 115 = .ok (.ifCond .ge 7, 3) := by decide +kernel
theorem dL_hangs_118 : decode cL_hangs 118 = .ok (.iconst 1, 1) := by decide +kernel
theorem dL_hangs_119 : decode cL_hangs 119 = .ok (.goto 4, 3) := by decide +kernel
theorem dL_hangs_122 : decode cL_hangs 122 = .ok (.iconst 0, 1) := by decide +kernel
theorem dL_hangs_123 : decode cL_hangs 123 = .ok (.aload_n 0, 1) := by decide +kernel
theorem dL_hangs_124 : decode cL_hangs 124 = .ok (.invokestatic 233, 3) := by decide +kernel
theorem dL_hangs_127 : decode cL_hangs 127 = .ok (.ifCond .ge 7, 3) := by decide +kernel
theorem dL_hangs_130 : decode cL_hangs 130 = .ok (.iconst 1, 1) := by decide +kernel
theorem dL_hangs_131 : decode cL_hangs 131 = .ok (.goto 4, 3) := by decide +kernel
theorem dL_hangs_134 : decode cL_hangs 134 = .ok (.iconst 0, 1) := by decide +kernel
theorem dL_hangs_135 : decode cL_hangs 135 = .ok (.if_icmp .ne 21, 3) := by decide +kernel
theorem dL_hangs_138 : decode cL_hangs 138 = .ok (.aload_n 0, 1) := by decide +kernel
theorem dL_hangs_139 : decode cL_hangs 139 = .ok (.invokevirtual 236, 3) := by decide +kernel
theorem dL_hangs_142 : decode cL_hangs 142 = .ok (.ifCond .eq 10, 3) := by decide +kernel
theorem dL_hangs_145 : decode cL_hangs 145 = .ok (.aload_n 0, 1) := by decide +kernel
theorem dL_hangs_146 : decode cL_hangs 146 = .ok (.invokevirtual 240, 3) := by decide +kernel
theorem dL_hangs_149 : decode cL_hangs 149 = .ok (.ifCond .ne 7, 3) := by decide +kernel
theorem dL_hangs_152 : decode cL_hangs 152 = .ok (.iconst 1, 1) := by decide +kernel
theorem dL_hangs_153 : decode cL_hangs 153 = .ok (.goto 4, 3) := by decide +kernel
theorem dL_hangs_156 : decode cL_hangs 156 = .ok (.iconst 0, 1) := by decide +kernel
theorem dL_hangs_157 : decode cL_hangs 157 = .ok (.istore_n 2, 1) := by decide +kernel
theorem dL_hangs_158 : decode cL_hangs 158 = .ok (.iconst 0, 1) := by decide +kernel
theorem dL_hangs_159 : decode cL_hangs 159 = .ok (.istore_n 3, 1) := by decide +kernel
theorem dL_hangs_160 : decode cL_hangs 160 = .ok (.iload_n 3, 1) := by decide +kernel
theorem dL_hangs_161 : decode cL_hangs 161 = .ok (.aload_n 0, 1) := by decide +kernel
theorem dL_hangs_162 : decode cL_hangs 162 = .ok (.invokevirtual 186, 3) := by decide +kernel
theorem dL_hangs_165 : decode cL_hangs 165 = .ok (.if_icmp .ge 96, 3) := by decide +kernel
theorem dL_hangs_168 : decode cL_hangs 168 = .ok (.iload_n 2, 1) := by decide +kernel
theorem dL_hangs_169 : decode cL_hangs 169 = .ok (.ifCond .eq 92, 3) := by decide +kernel
theorem dL_hangs_172 : decode cL_hangs 172 = .ok (.aload_n 0, 1) := by decide +kernel
theorem dL_hangs_173 : decode cL_hangs 173 = .ok (.iload_n 3, 1) := by decide +kernel
theorem dL_hangs_174 : decode cL_hangs 174 = .ok (.invokestatic 189, 3) := by decide +kernel
theorem dL_hangs_177 : decode cL_hangs 177 = .ok (.iconst 1, 1) := by decide +kernel
theorem dL_hangs_178 : decode cL_hangs 178 = .ok (.if_icmp .lt 67, 3) := by decide +kernel
theorem dL_hangs_181 : decode cL_hangs 181 = .ok (.aload_n 0, 1) := by decide +kernel
theorem dL_hangs_182 : decode cL_hangs 182 = .ok (.iload_n 3, 1) := by decide +kernel
theorem dL_hangs_183 : decode cL_hangs 183 = .ok (.invokestatic 189, 3) := by decide +kernel
theorem dL_hangs_186 : decode cL_hangs 186 = .ok (.sipush 200, 3) := by decide +kernel
theorem dL_hangs_189 : decode cL_hangs 189 = .ok (.if_icmp .gt 56, 3) := by decide +kernel
theorem dL_hangs_192 : decode cL_hangs 192 = .ok (.aload_n 0, 1) := by decide +kernel
theorem dL_hangs_193 : decode cL_hangs 193 = .ok (.iload_n 3, 1) := by decide +kernel
theorem dL_hangs_194 : decode cL_hangs 194 = .ok (.aload_n 0, 1) := by decide +kernel
theorem dL_hangs_195 : decode cL_hangs 195 = .ok (.iload_n 3, 1) := by decide +kernel
theorem dL_hangs_196 : decode cL_hangs 196 = .ok (.invokestatic 189, 3) := by decide +kernel
theorem dL_hangs_199 : decode cL_hangs 199 = .ok (.invokestatic 192, 3) := by decide +kernel
theorem dL_hangs_202 : decode cL_hangs 202 = .ok (.ldc 17, 2) := by decide +kernel
theorem dL_hangs_204 : decode cL_hangs 204 = .ok (.if_icmp .ne 41, 3) := by decide +kernel
theorem dL_hangs_207 : decode cL_hangs 207 = .ok (.aload_n 0, 1) := by decide +kernel
theorem dL_hangs_208 : decode cL_hangs 208 = .ok (.iload_n 3, 1) := by decide +kernel
theorem dL_hangs_209 : decode cL_hangs 209 = .ok (.invokestatic 243, 3) := by decide +kernel
theorem dL_hangs_212 : decode cL_hangs 212 = .ok (.aload_n 0, 1) := by decide +kernel
theorem dL_hangs_213 : decode cL_hangs 213 = .ok (.invokevirtual 123, 3) := by decide +kernel
theorem dL_hangs_216 : decode cL_hangs 216 = .ok (.aload_n 0, 1) := by decide +kernel
theorem dL_hangs_217 : decode cL_hangs 217 = .ok (.iload_n 3, 1) := by decide +kernel
theorem dL_hangs_218 : decode cL_hangs 218 = .ok (.invokestatic 189, 3) := by decide +kernel
theorem dL_hangs_221 : decode cL_hangs 221 = .ok (.iadd, 1) := by decide +kernel
theorem dL_hangs_222 : decode cL_hangs 222 = .ok (.if_icmp .ne 23, 3) := by decide +kernel
theorem dL_hangs_225 : decode cL_hangs 225 = .ok (.aload_n 0, 1) := by decide +kernel
theorem dL_hangs_226 : decode cL_hangs 226 = .ok (.aload_n 0, 1) := by decide +kernel
theorem dL_hangs_227 : decode cL_hangs 227 = .ok (.invokestatic 246, 3) := by decide +kernel
theorem dL_hangs_230 : decode cL_hangs 230 = .ok (.invokestatic 189, 3) := by decide +kernel
theorem dL_hangs_233 : decode cL_hangs 233 = .ok (.aload_n 0, 1) := by decide +kernel
theorem dL_hangs_234 : decode cL_hangs 234 = .ok (.iload_n 3, 1) := by decide +kernel
theorem dL_hangs_235 : decode cL_hangs 235 = .ok (.invokestatic 189, 3) := by decide +kernel
theorem dL_hangs_238 : decode cL_hangs 238 = .ok (.if_icmp .lt 7, 3) := by decide +kernel
theorem dL_hangs_241 : decode cL_hangs 241 = .ok (.iconst 1, 1) := by decide +kernel
theorem dL_hangs_242 : decode cL_hangs 242 = .ok (.goto 4, 3) := by decide +kernel
theorem dL_hangs_245 : decode cL_hangs 245 = .ok (.iconst 0, 1) := by decide +kernel
theorem dL_hangs_246 : decode cL_hangs 246 = .ok (.istore_n 2, 1) := by decide +kernel
theorem dL_hangs_247 : decode cL_hangs 247 = .ok (.iload_n 1, 1) := by decide +kernel
theorem dL_hangs_248 : decode cL_hangs 248 = .ok (.aload_n 0, 1) := by decide +kernel
theorem dL_hangs_249 : decode cL_hangs 249 = .ok (.iload_n 3, 1) := by decide +kernel
theorem dL_hangs_250 : decode cL_hangs 250 = .ok (.invokestatic 189, 3) := by decide +kernel
theorem dL_hangs_253 : decode cL_hangs 253 = .ok (.iadd, 1) := by decide +kernel
theorem dL_hangs_254 : decode cL_hangs 254 = .ok (.istore_n 1, 1) := by decide +kernel
theorem dL_hangs_255 : decode cL_hangs 255 = .ok (.iinc 3 1, 3) := by decide +kernel
theorem dL_hangs_258 : decode cL_hangs 258 = .ok (.goto (-98), 3) := by decide +kernel
theorem dL_hangs_261 : decode cL_hangs 261 = .ok (.iload_n 2, 1) := by decide +kernel
theorem dL_hangs_262 : decode cL_hangs 262 = .ok (.ifCond .eq 68, 3) := by decide +kernel
theorem dL_hangs_265 : decode cL_hangs 265 = .ok (.iload_n 1, 1) := by decide +kernel
theorem dL_hangs_266 : decode cL_hangs 266 = .ok (.aload_n 0, 1) := by decide +kernel
theorem dL_hangs_267 : decode cL_hangs 267 = .ok (.invokevirtual 248, 3) := by decide +kernel
theorem dL_hangs_270 : decode cL_hangs 270 = .ok (.if_icmp .ne 60, 3) := by decide +kernel
theorem dL_hangs_273 : decode cL_hangs 273 = .ok (.aload_n 0, 1) := by decide +kernel
theorem dL_hangs_274 : decode cL_hangs 274 = .ok (.invokevirtual 186, 3) := by decide +kernel
theorem dL_hangs_277 : decode cL_hangs 277 = .ok (.ifCond .le 24, 3) := by decide +kernel
theorem dL_hangs_280 : decode cL_hangs 280 = .ok (.aload_n 0, 1) := by decide +kernel
theorem dL_hangs_281 : decode cL_hangs 281 = .ok (.invokestatic 207, 3) := by decide +kernel
theorem dL_hangs_284 : decode cL_hangs 284 = .ok (.ifCond .lt 46, 3) := by decide +kernel
theorem dL_hangs_287 : decode cL_hangs 287 = .ok (.aload_n 0, 1) := by decide +kernel
theorem dL_hangs_288 : decode cL_hangs 288 = .ok (.invokestatic 207, 3) := by decide +kernel
theorem dL_hangs_291 : decode cL_hangs 291 = .ok (.aload_n 0, 1) := by decide +kernel
theorem dL_hangs_292 : decode cL_hangs 292 = .ok (.invokevirtual 186, 3) := by decide +kernel
theorem dL_hangs_295 : decode cL_hangs 295 = .ok (.if_icmp .ge 35, 3) := by decide +kernel
theorem dL_hangs_298 : decode cL_hangs 298 = .ok (.goto 28, 3) := by decide +kernel
theorem dL_hangs_301 : decode cL_hangs 301 = .ok (.aload_n 0, 1) := by decide +kernel
theorem dL_hangs_302 : decode cL_hangs 302 = .ok (.invokestatic 207, 3) := by decide +kernel
theorem dL_hangs_305 : decode cL_hangs 305 = .ok (.ldc 17, 2) := by decide +kernel
theorem dL_hangs_307 : decode cL_hangs 307 = .ok (.if_icmp .ne 23, 3) := by decide +kernel
theorem dL_hangs_310 : decode cL_hangs 310 = .ok (.aload_n 0, 1) := by decide +kernel
theorem dL_hangs_311 : decode cL_hangs 311 = .ok (.invokestatic 246, 3) := by decide +kernel
theorem dL_hangs_314 : decode cL_hangs 314 = .ok (.ldc 17, 2) := by decide +kernel
theorem dL_hangs_316 : decode cL_hangs 316 = .ok (.if_icmp .ne 14, 3) := by decide +kernel
theorem dL_hangs_319 : decode cL_hangs 319 = .ok (.aload_n 0, 1) := by decide +kernel
theorem dL_hangs_320 : decode cL_hangs 320 = .ok (.invokevirtual 236, 3) := by decide +kernel
theorem dL_hangs_323 : decode cL_hangs 323 = .ok (.ifCond .ne 7, 3) := by decide +kernel
theorem dL_hangs_326 : decode cL_hangs 326 = .ok (.iconst 1, 1) := by decide +kernel
theorem dL_hangs_327 : decode cL_hangs 327 = .ok (.goto 4, 3) := by decide +kernel
theorem dL_hangs_330 : decode cL_hangs 330 = .ok (.iconst 0, 1) := by decide +kernel
theorem dL_hangs_331 : decode cL_hangs 331 = .ok (.istore_n 2, 1) := by decide +kernel
theorem dL_hangs_332 : decode cL_hangs 332 = .ok (.iload_n 2, 1) := by decide +kernel
theorem dL_hangs_333 : decode cL_hangs 333 = .ok (.ifCond .eq 106, 3) := by decide +kernel
theorem dL_hangs_336 : decode cL_hangs 336 = .ok (.aload_n 0, 1) := by decide +kernel
theorem dL_hangs_337 : decode cL_hangs 337 = .ok (.invokevirtual 240, 3) := by decide +kernel
theorem dL_hangs_340 : decode cL_hangs 340 = .ok (.ifCond .eq 99, 3) := by decide +kernel
theorem dL_hangs_343 : decode cL_hangs 343 = .ok (.aload_n 0, 1) := by decide +kernel
theorem dL_hangs_344 : decode cL_hangs 344 = .ok (.invokevirtual 186, 3) := by decide +kernel
theorem dL_hangs_347 : decode cL_hangs 347 = .ok (.ifCond .le 38, 3) := by decide +kernel
theorem dL_hangs_350 : decode cL_hangs 350 = .ok (.aload_n 0, 1) := by decide +kernel
theorem dL_hangs_351 : decode cL_hangs 351 = .ok (.invokestatic 233, 3) := by decide +kernel
theorem dL_hangs_354 : decode cL_hangs 354 = .ok (.aload_n 0, 1) := by decide +kernel
theorem dL_hangs_355 : decode cL_hangs 355 = .ok (.aload_n 0, 1) := by decide +kernel
theorem dL_hangs_356 : decode cL_hangs 356 = .ok (.invokestatic 207, 3) := by decide +kernel
theorem dL_hangs_359 : decode cL_hangs 359 = .ok (.invokestatic 189, 3) := by decide +kernel
theorem dL_hangs_362 : decode cL_hangs 362 = .ok (.if_icmp .ne 23, 3) := by decide +kernel
theorem dL_hangs_365 : decode cL_hangs 365 = .ok (.aload_n 0, 1) := by decide +kernel
theorem dL_hangs_366 : decode cL_hangs 366 = .ok (.invokestatic 179, 3) := by decide +kernel
theorem dL_hangs_369 : decode cL_hangs 369 = .ok (.aload_n 0, 1) := by decide +kernel
theorem dL_hangs_370 : decode cL_hangs 370 = .ok (.invokestatic 233, 3) := by decide +kernel
theorem dL_hangs_373 : decode cL_hangs 373 = .ok (.iadd, 1) := by decide +kernel
theorem dL_hangs_374 : decode cL_hangs 374 = .ok (.aload_n 0, 1) := by decide +kernel
theorem dL_hangs_375 : decode cL_hangs 375 = .ok (.invokevirtual 176, 3) := by decide +kernel
theorem dL_hangs_378 : decode cL_hangs 378 = .ok (.if_icmp .ne 7, 3) := by decide +kernel
theorem dL_hangs_381 : decode cL_hangs 381 = .ok (.iconst 1, 1) := by decide +kernel
theorem dL_hangs_382 : decode cL_hangs 382 = .ok (.goto 4, 3) := by decide +kernel
theorem dL_hangs_385 : decode cL_hangs 385 = .ok (.iconst 0, 1) := by decide +kernel
theorem dL_hangs_386 : decode cL_hangs 386 = .ok (.istore_n 2, 1) := by decide +kernel
theorem dL_hangs_387 : decode cL_hangs 387 = .ok (.iconst 0, 1) := by decide +kernel
theorem dL_hangs_388 : decode cL_hangs 388 = .ok (.istore_n 3, 1) := by decide +kernel
theorem dL_hangs_389 : decode cL_hangs 389 = .ok (.iload_n 3, 1) := by decide +kernel
theorem dL_hangs_390 : decode cL_hangs 390 = .ok (.aload_n 0, 1) := by decide +kernel
theorem dL_hangs_391 : decode cL_hangs 391 = .ok (.aload_n 0, 1) := by decide +kernel
theorem dL_hangs_392 : decode cL_hangs 392 = .ok (.invokestatic 207, 3) := by decide +kernel
theorem dL_hangs_395 : decode cL_hangs 395 = .ok (.invokestatic 189, 3) := by decide +kernel
theorem dL_hangs_398 : decode cL_hangs 398 = .ok (.if_icmp .ge 41, 3) := by decide +kernel
theorem dL_hangs_401 : decode cL_hangs 401 = .ok (.iload_n 2, 1) := by decide +kernel
theorem dL_hangs_402 : decode cL_hangs 402 = .ok (.ifCond .eq 37, 3) := by decide +kernel
theorem dL_hangs_405 : decode cL_hangs 405 = .ok (.aload_n 0, 1) := by decide +kernel
theorem dL_hangs_406 : decode cL_hangs 406 = .ok (.aload_n 0, 1) := by decide +kernel
theorem dL_hangs_407 : decode cL_hangs 407 = .ok (.invokestatic 179, 3) := by decide +kernel
theorem dL_hangs_410 : decode cL_hangs 410 = .ok (.iload_n 3, 1) := by decide +kernel
theorem dL_hangs_411 : decode cL_hangs 411 = .ok (.iadd, 1) := by decide +kernel
theorem dL_hangs_412 : decode cL_hangs 412 = .ok (.invokestatic 183, 3) := by decide +kernel
theorem dL_hangs_415 : decode cL_hangs 415 = .ok (.aload_n 0, 1) := by decide +kernel
theorem dL_hangs_416 : decode cL_hangs 416 = .ok (.aload_n 0, 1) := by decide +kernel
theorem dL_hangs_417 : decode cL_hangs 417 = .ok (.invokestatic 207, 3) := by decide +kernel
theorem dL_hangs_420 : decode cL_hangs 420 = .ok (.iload_n 3, 1) := by decide +kernel
theorem dL_hangs_421 : decode cL_hangs 421 = .ok (.invokestatic 192, 3) := by decide +kernel
theorem dL_hangs_424 : decode cL_hangs 424 = .ok (.if_icmp .ne 7, 3) := by decide +kernel
theorem dL_hangs_427 : decode cL_hangs 427 = .ok (.iconst 1, 1) := by decide +kernel
theorem dL_hangs_428 : decode cL_hangs 428 = .ok (.goto 4, 3) := by decide +kernel
theorem dL_hangs_431 : decode cL_hangs 431 = .ok (.iconst 0, 1) := by decide +kernel
theorem dL_hangs_432 : decode cL_hangs 432 = .ok (.istore_n 2, 1) := by decide +kernel
theorem dL_hangs_433 : decode cL_hangs 433 = .ok (.iinc 3 1, 3) := by decide +kernel
theorem dL_hangs_436 : decode cL_hangs 436 = .ok (.goto (-47), 3) := by decide +kernel
theorem dL_hangs_439 : decode cL_hangs 439 = .ok (.iload_n 2, 1) := by decide +kernel
theorem dL_hangs_440 : decode cL_hangs 440 = .ok (.ifCond .eq 21, 3) := by decide +kernel
theorem dL_hangs_443 : decode cL_hangs 443 = .ok (.aload_n 0, 1) := by decide +kernel
theorem dL_hangs_444 : decode cL_hangs 444 = .ok (.invokevirtual 236, 3) := by decide +kernel
theorem dL_hangs_447 : decode cL_hangs 447 = .ok (.ifCond .eq 10, 3) := by decide +kernel
theorem dL_hangs_450 : decode cL_hangs 450 = .ok (.aload_n 0, 1) := by decide +kernel
theorem dL_hangs_451 : decode cL_hangs 451 = .ok (.invokestatic 207, 3) := by decide +kernel
theorem dL_hangs_454 : decode cL_hangs 454 = .ok (.ifCond .ne 7, 3) := by decide +kernel
theorem dL_hangs_457 : decode cL_hangs 457 = .ok (.iconst 1, 1) := by decide +kernel
theorem dL_hangs_458 : decode cL_hangs 458 = .ok (.goto 4, 3) := by decide +kernel
theorem dL_hangs_461 : decode cL_hangs 461 = .ok (.iconst 0, 1) := by decide +kernel
theorem dL_hangs_462 : decode cL_hangs 462 = .ok (.ireturn, 1) := by decide +kernel
theorem dL_law_0 : decode cL_law 0 = .ok (.new 10, 3) := by decide +kernel
theorem dL_law_3 : decode cL_law 3 = .ok (.dup, 1) := by decide +kernel
theorem dL_law_4 : decode cL_law 4 = .ok (.invokespecial 251, 3) := by decide +kernel
theorem dL_law_7 : decode cL_law 7 = .ok (.astore_n 1, 1) := by decide +kernel
theorem dL_law_8 : decode cL_law 8 = .ok (.aload_n 1, 1) := by decide +kernel
theorem dL_law_9 : decode cL_law 9 = .ok (.invokestatic 252, 3) := by decide +kernel
theorem dL_law_12 : decode cL_law 12 = .ok (.ldc 17, 2) := by decide +kernel
theorem dL_law_14 : decode cL_law 14 = .ok (.if_icmp .ne 34, 3) := by decide +kernel
theorem dL_law_17 : decode cL_law 17 = .ok (.aload_n 1, 1) := by decide +kernel
theorem dL_law_18 : decode cL_law 18 = .ok (.iconst 1, 1) := by decide +kernel
theorem dL_law_19 : decode cL_law 19 = .ok (.invokestatic 254, 3) := by decide +kernel
theorem dL_law_22 : decode cL_law 22 = .ok (.ldc 20, 2) := by decide +kernel
theorem dL_law_24 : decode cL_law 24 = .ok (.if_icmp .ne 24, 3) := by decide +kernel
theorem dL_law_27 : decode cL_law 27 = .ok (.aload_n 1, 1) := by decide +kernel
theorem dL_law_28 : decode cL_law 28 = .ok (.iconst (-1), 1) := by decide +kernel
theorem dL_law_29 : decode cL_law 29 = .ok (.invokestatic 257, 3) := by decide +kernel
theorem dL_law_32 : decode cL_law 32 = .ok (.ldc 17, 2) := by decide +kernel
theorem dL_law_34 : decode cL_law 34 = .ok (.if_icmp .ne 14, 3) := by decide +kernel
theorem dL_law_37 : decode cL_law 37 = .ok (.aload_n 1, 1) := by decide +kernel
theorem dL_law_38 : decode cL_law 38 = .ok (.invokestatic 259, 3) := by decide +kernel
theorem dL_law_41 : decode cL_law 41 = .ok (.ifCond .eq 7, 3) := by decide +kernel
theorem dL_law_44 : decode cL_law 44 = .ok (.iconst 1, 1) := by decide +kernel
theorem dL_law_45 : decode cL_law 45 = .ok (.goto 4, 3) := by decide +kernel
theorem dL_law_48 : decode cL_law 48 = .ok (.iconst 0, 1) := by decide +kernel
theorem dL_law_49 : decode cL_law 49 = .ok (.istore_n 2, 1) := by decide +kernel
theorem dL_law_50 : decode cL_law 50 = .ok (.iconst 0, 1) := by decide +kernel
theorem dL_law_51 : decode cL_law 51 = .ok (.istore_n 3, 1) := by decide +kernel
theorem dL_law_52 : decode cL_law 52 = .ok (.iload_n 3, 1) := by decide +kernel
theorem dL_law_53 : decode cL_law 53 = .ok (.bipush 60, 2) := by decide +kernel
theorem dL_law_55 : decode cL_law 55 = .ok (.if_icmp .ge 363, 3) := by decide +kernel
theorem dL_law_58 : decode cL_law 58 = .ok (.iload_n 2, 1) := by decide +kernel
theorem dL_law_59 : decode cL_law 59 = .ok (.ifCond .eq 359, 3) := by decide +kernel
theorem dL_law_62 : decode cL_law 62 = .ok (.iload_n 3, 1) := by decide +kernel
theorem dL_law_63 : decode cL_law 63 = .ok (.bipush 9, 2) := by decide +kernel
theorem dL_law_65 : decode cL_law 65 = .ok (.if_icmp .ge 17, 3) := by decide +kernel
theorem dL_law_68 : decode cL_law 68 = .ok (.aload_n 0, 1) := by decide +kernel
theorem dL_law_69 : decode cL_law 69 = .ok (.iload_n 3, 1) := by decide +kernel
theorem dL_law_70 : decode cL_law 70 = .ok (.invokestatic 263, 3) := by decide +kernel
theorem dL_law_73 : decode cL_law 73 = .ok (.bipush 32, 2) := by decide +kernel
theorem dL_law_75 : decode cL_law 75 = .ok (.idiv, 1) := by decide +kernel
theorem dL_law_76 : decode cL_law 76 = .ok (.bipush 32, 2) := by decide +kernel
theorem dL_law_78 : decode cL_law 78 = .ok (.imul, 1) := by decide +kernel
theorem dL_law_79 : decode cL_law 79 = .ok (.goto 8, 3) := by decide +kernel
theorem dL_law_82 : decode cL_law 82 = .ok (.aload_n 0, 1) := by decide +kernel
theorem dL_law_83 : decode cL_law 83 = .ok (.iload_n 3, 1) := by decide +kernel
theorem dL_law_84 : decode cL_law 84 = .ok (.invokestatic 263, 3) := by decide +kernel
theorem dL_law_87 : decode cL_law 87 = .ok (.istore 4, 2) := by decide +kernel
theorem dL_law_89 : decode cL_law 89 = .ok (.aload_n 1, 1) := by decide +kernel
theorem dL_law_90 : decode cL_law 90 = .ok (.invokestatic 267, 3) := by decide +kernel
theorem dL_law_93 : decode cL_law 93 = .ok (.istore 5, 2) := by decide +kernel
theorem dL_law_95 : decode cL_law 95 = .ok (.aload_n 1, 1) := by decide +kernel
theorem dL_law_96 : decode cL_law 96 = .ok (.invokevirtual 270, 3) := by decide +kernel
theorem dL_law_99 : decode cL_law 99 = .ok (.istore 6, 2) := by decide +kernel
theorem dL_law_101 : decode cL_law 101 = .ok (.aload_n 1, 1) := by decide +kernel
theorem dL_law_102 : decode cL_law 102 = .ok (.invokevirtual 236, 3) := by decide +kernel
theorem dL_law_105 : decode cL_law 105 = .ok (.istore 7, 2) := by decide +kernel
theorem dL_law_107 : decode cL_law 107 = .ok (.aload_n 1, 1) := by decide +kernel
theorem dL_law_108 : decode cL_law 108 = .ok (.invokevirtual 186, 3) := by decide +kernel
theorem dL_law_111 : decode cL_law 111 = .ok (.istore 8, 2) := by decide +kernel
theorem dL_law_113 : decode cL_law 113 = .ok (.aload_n 1, 1) := by decide +kernel
theorem dL_law_114 : decode cL_law 114 = .ok (.invokevirtual 195, 3) := by decide +kernel
theorem dL_law_117 : decode cL_law 117 = .ok (.istore 9, 2) := by decide +kernel
theorem dL_law_119 : decode cL_law 119 = .ok (.aload_n 1, 1) := by decide +kernel
theorem dL_law_120 : decode cL_law 120 = .ok (.iload 4, 2) := by decide +kernel
theorem dL_law_122 : decode cL_law 122 = .ok (.invokestatic 273, 3) := by decide +kernel
theorem dL_law_125 : decode cL_law 125 = .ok (.istore 10, 2) := by decide +kernel
theorem dL_law_127 : decode cL_law 127 = .ok (.aload_n 1, 1) := by decide +kernel
theorem dL_law_128 : decode cL_law 128 = .ok (.invokevirtual 276, 3) := by decide +kernel
theorem dL_law_131 : decode cL_law 131 = .ok (.pop, 1) := by decide +kernel
theorem dL_law_132 : decode cL_law 132 = .ok (.iload 10, 2) := by decide +kernel
theorem dL_law_134 : decode cL_law 134 = .ok (.ifCond .ge 39, 3) := by decide +kernel
theorem dL_law_137 : decode cL_law 137 = .ok (.aload_n 1, 1) := by decide +kernel
theorem dL_law_138 : decode cL_law 138 = .ok (.invokestatic 267, 3) := by decide +kernel
theorem dL_law_141 : decode cL_law 141 = .ok (.iload 5, 2) := by decide +kernel
theorem dL_law_143 : decode cL_law 143 = .ok (.if_icmp .ne 25, 3) := by decide +kernel
theorem dL_law_146 : decode cL_law 146 = .ok (.aload_n 1, 1) := by decide +kernel
theorem dL_law_147 : decode cL_law 147 = .ok (.invokevirtual 270, 3) := by decide +kernel
theorem dL_law_150 : decode cL_law 150 = .ok (.iload 6, 2) := by decide +kernel
theorem dL_law_152 : decode cL_law 152 = .ok (.if_icmp .ne 16, 3) := by decide +kernel
theorem dL_law_155 : decode cL_law 155 = .ok (.aload_n 1, 1) := by decide +kernel
theorem dL_law_156 : decode cL_law 156 = .ok (.invokevirtual 236, 3) := by decide +kernel
theorem dL_law_159 : decode cL_law 159 = .ok (.iload 7, 2) := by decide +kernel
theorem dL_law_161 : decode cL_law 161 = .ok (.if_icmp .ne 7, 3) := by decide +kernel
theorem dL_law_164 : decode cL_law 164 = .ok (.iconst 1, 1) := by decide +kernel
theorem dL_law_165 : decode cL_law 165 = .ok (.goto 4, 3) := by decide +kernel
theorem dL_law_168 : decode cL_law 168 = .ok (.iconst 0, 1) := by decide +kernel
theorem dL_law_169 : decode cL_law 169 = .ok (.istore_n 2, 1) := by decide +kernel
theorem dL_law_170 : decode cL_law 170 = .ok (.goto 242, 3) := by decide +kernel
theorem dL_law_173 : decode cL_law 173 = .ok (.aload_n 1, 1) := by decide +kernel
theorem dL_law_174 : decode cL_law 174 = .ok (.invokevirtual 270, 3) := by decide +kernel
theorem dL_law_177 : decode cL_law 177 = .ok (.iload 6, 2) := by decide +kernel
theorem dL_law_179 : decode cL_law 179 = .ok (.bipush 6, 2) := by decide +kernel
theorem dL_law_181 : decode cL_law 181 = .ok (.if_icmp .ne 8, 3) := by decide +kernel
theorem dL_law_184 : decode cL_law 184 = .ok (.bipush 6, 2) := by decide +kernel
theorem dL_law_186 : decode cL_law 186 = .ok (.goto 7, 3) := by decide +kernel
theorem dL_law_189 : decode cL_law 189 = .ok (.iload 6, 2) := by decide +kernel
theorem dL_law_191 : decode cL_law 191 = .ok (.iconst 1, 1) := by decide +kernel
theorem dL_law_192 : decode cL_law 192 = .ok (.iadd, 1) := by decide +kernel
theorem dL_law_193 : decode cL_law 193 = .ok (.if_icmp .ne 14, 3) := by decide +kernel
theorem dL_law_196 : decode cL_law 196 = .ok (.aload_n 1, 1) := by decide +kernel
theorem dL_law_197 : decode cL_law 197 = .ok (.invokestatic 259, 3) := by decide +kernel
theorem dL_law_200 : decode cL_law 200 = .ok (.ifCond .eq 7, 3) := by decide +kernel
theorem dL_law_203 : decode cL_law 203 = .ok (.iconst 1, 1) := by decide +kernel
theorem dL_law_204 : decode cL_law 204 = .ok (.goto 4, 3) := by decide +kernel
theorem dL_law_207 : decode cL_law 207 = .ok (.iconst 0, 1) := by decide +kernel
theorem dL_law_208 : decode cL_law 208 = .ok (.istore_n 2, 1) := by decide +kernel
theorem dL_law_209 : decode cL_law 209 = .ok (.iload 4, 2) := by decide +kernel
theorem dL_law_211 : decode cL_law 211 = .ok (.bipush 32, 2) := by decide +kernel
theorem dL_law_213 : decode cL_law 213 = .ok (.irem, 1) := by decide +kernel
theorem dL_law_214 : decode cL_law 214 = .ok (.istore 11, 2) := by decide +kernel
theorem dL_law_216 : decode cL_law 216 = .ok (.iload_n 2, 1) := by decide +kernel
theorem dL_law_217 : decode cL_law 217 = .ok (.ifCond .eq 94, 3) := by decide +kernel
theorem dL_law_220 : decode cL_law 220 = .ok (.iload 11, 2) := by decide +kernel
theorem dL_law_222 : decode cL_law 222 = .ok (.bipush 18, 2) := by decide +kernel
theorem dL_law_224 : decode cL_law 224 = .ok (.if_icmp .lt 87, 3) := by decide +kernel
theorem dL_law_227 : decode cL_law 227 = .ok (.iload 11, 2) := by decide +kernel
theorem dL_law_229 : decode cL_law 229 = .ok (.bipush 22, 2) := by decide +kernel
theorem dL_law_231 : decode cL_law 231 = .ok (.if_icmp .gt 80, 3) := by decide +kernel
theorem dL_law_234 : decode cL_law 234 = .ok (.aload_n 1, 1) := by decide +kernel
theorem dL_law_235 : decode cL_law 235 = .ok (.invokevirtual 236, 3) := by decide +kernel
theorem dL_law_238 : decode cL_law 238 = .ok (.ifCond .eq 71, 3) := by decide +kernel
theorem dL_law_241 : decode cL_law 241 = .ok (.aload_n 1, 1) := by decide +kernel
theorem dL_law_242 : decode cL_law 242 = .ok (.invokevirtual 195, 3) := by decide +kernel
theorem dL_law_245 : decode cL_law 245 = .ok (.iload 9, 2) := by decide +kernel
theorem dL_law_247 : decode cL_law 247 = .ok (.iload 10, 2) := by decide +kernel
theorem dL_law_249 : decode cL_law 249 = .ok (.iadd, 1) := by decide +kernel
theorem dL_law_250 : decode cL_law 250 = .ok (.if_icmp .ne 59, 3) := by decide +kernel
theorem dL_law_253 : decode cL_law 253 = .ok (.iload 7, 2) := by decide +kernel
theorem dL_law_255 : decode cL_law 255 = .ok (.ifCond .eq 15, 3) := by decide +kernel
theorem dL_law_258 : decode cL_law 258 = .ok (.aload_n 1, 1) := by decide +kernel
theorem dL_law_259 : decode cL_law 259 = .ok (.invokevirtual 186, 3) := by decide +kernel
theorem dL_law_262 : decode cL_law 262 = .ok (.iload 8, 2) := by decide +kernel
theorem dL_law_264 : decode cL_law 264 = .ok (.if_icmp .ne 45, 3) := by decide +kernel
theorem dL_law_267 : decode cL_law 267 = .ok (.goto 38, 3) := by decide +kernel
theorem dL_law_270 : decode cL_law 270 = .ok (.aload_n 1, 1) := by decide +kernel
theorem dL_law_271 : decode cL_law 271 = .ok (.iconst 0, 1) := by decide +kernel
theorem dL_law_272 : decode cL_law 272 = .ok (.invokestatic 189, 3) := by decide +kernel
theorem dL_law_275 : decode cL_law 275 = .ok (.iload 10, 2) := by decide +kernel
theorem dL_law_277 : decode cL_law 277 = .ok (.if_icmp .ne 32, 3) := by decide +kernel
theorem dL_law_280 : decode cL_law 280 = .ok (.aload_n 1, 1) := by decide +kernel
theorem dL_law_281 : decode cL_law 281 = .ok (.invokevirtual 186, 3) := by decide +kernel
theorem dL_law_284 : decode cL_law 284 = .ok (.iload 8, 2) := by decide +kernel
theorem dL_law_286 : decode cL_law 286 = .ok (.aload_n 1, 1) := by decide +kernel
theorem dL_law_287 : decode cL_law 287 = .ok (.invokevirtual 181, 3) := by decide +kernel
theorem dL_law_290 : decode cL_law 290 = .ok (.if_icmp .ne 8, 3) := by decide +kernel
theorem dL_law_293 : decode cL_law 293 = .ok (.iload 8, 2) := by decide +kernel
theorem dL_law_295 : decode cL_law 295 = .ok (.goto 7, 3) := by decide +kernel
theorem dL_law_298 : decode cL_law 298 = .ok (.iload 8, 2) := by decide +kernel
theorem dL_law_300 : decode cL_law 300 = .ok (.iconst 1, 1) := by decide +kernel
theorem dL_law_301 : decode cL_law 301 = .ok (.iadd, 1) := by decide +kernel
theorem dL_law_302 : decode cL_law 302 = .ok (.if_icmp .ne 7, 3) := by decide +kernel
theorem dL_law_305 : decode cL_law 305 = .ok (.iconst 1, 1) := by decide +kernel
theorem dL_law_306 : decode cL_law 306 = .ok (.goto 4, 3) := by decide +kernel
theorem dL_law_309 : decode cL_law 309 = .ok (.iconst 0, 1) := by decide +kernel
theorem dL_law_310 : decode cL_law 310 = .ok (.istore_n 2, 1) := by decide +kernel
theorem dL_law_311 : decode cL_law 311 = .ok (.iload_n 2, 1) := by decide +kernel
theorem dL_law_312 : decode cL_law 312 = .ok (.ifCond .eq 100, 3) := by decide +kernel
theorem dL_law_315 : decode cL_law 315 = .ok (.iload 4, 2) := by decide +kernel
theorem dL_law_317 : decode cL_law 317 = .ok (.bipush 7, 2) := by decide +kernel
theorem dL_law_319 : decode cL_law 319 = .ok (.idiv, 1) := by decide +kernel
theorem dL_law_320 : decode cL_law 320 = .ok (.iconst 4, 1) := by decide +kernel
theorem dL_law_321 : decode cL_law 321 = .ok (.irem, 1) := by decide +kernel
theorem dL_law_322 : decode cL_law 322 = .ok (.ifCond .ne 90, 3) := by decide +kernel
theorem dL_law_325 : decode cL_law 325 = .ok (.aload_n 1, 1) := by decide +kernel
theorem dL_law_326 : decode cL_law 326 = .ok (.invokestatic 267, 3) := by decide +kernel
theorem dL_law_329 : decode cL_law 329 = .ok (.istore 12, 2) := by decide +kernel
theorem dL_law_331 : decode cL_law 331 = .ok (.aload_n 1, 1) := by decide +kernel
theorem dL_law_332 : decode cL_law 332 = .ok (.iconst 1, 1) := by decide +kernel
theorem dL_law_333 : decode cL_law 333 = .ok (.invokestatic 257, 3) := by decide +kernel
theorem dL_law_336 : decode cL_law 336 = .ok (.ifCond .ne 74, 3) := by decide +kernel
theorem dL_law_339 : decode cL_law 339 = .ok (.aload_n 1, 1) := by decide +kernel
theorem dL_law_340 : decode cL_law 340 = .ok (.invokestatic 252, 3) := by decide +kernel
theorem dL_law_343 : decode cL_law 343 = .ok (.ifCond .ne 67, 3) := by decide +kernel
theorem dL_law_346 : decode cL_law 346 = .ok (.aload_n 1, 1) := by decide +kernel
theorem dL_law_347 : decode cL_law 347 = .ok (.invokevirtual 270, 3) := by decide +kernel
theorem dL_law_350 : decode cL_law 350 = .ok (.iload 6, 2) := by decide +kernel
theorem dL_law_352 : decode cL_law 352 = .ok (.bipush 6, 2) := by decide +kernel
theorem dL_law_354 : decode cL_law 354 = .ok (.if_icmp .ne 7, 3) := by decide +kernel
theorem dL_law_357 : decode cL_law 357 = .ok (.iconst 5, 1) := by decide +kernel
theorem dL_law_358 : decode cL_law 358 = .ok (.goto 5, 3) := by decide +kernel
theorem dL_law_361 : decode cL_law 361 = .ok (.iload 6, 2) := by decide +kernel
theorem dL_law_363 : decode cL_law 363 = .ok (.if_icmp .ne 47, 3) := by decide +kernel
theorem dL_law_366 : decode cL_law 366 = .ok (.aload_n 1, 1) := by decide +kernel
theorem dL_law_367 : decode cL_law 367 = .ok (.invokestatic 267, 3) := by decide +kernel
theorem dL_law_370 : decode cL_law 370 = .ok (.iload 5, 2) := by decide +kernel
theorem dL_law_372 : decode cL_law 372 = .ok (.if_icmp .ne 38, 3) := by decide +kernel
theorem dL_law_375 : decode cL_law 375 = .ok (.aload_n 1, 1) := by decide +kernel
theorem dL_law_376 : decode cL_law 376 = .ok (.invokevirtual 236, 3) := by decide +kernel
theorem dL_law_379 : decode cL_law 379 = .ok (.ifCond .ne 31, 3) := by decide +kernel
theorem dL_law_382 : decode cL_law 382 = .ok (.aload_n 1, 1) := by decide +kernel
theorem dL_law_383 : decode cL_law 383 = .ok (.invokevirtual 240, 3) := by decide +kernel
theorem dL_law_386 : decode cL_law 386 = .ok (.ifCond .ne 24, 3) := by decide +kernel
theorem dL_law_389 : decode cL_law 389 = .ok (.aload_n 1, 1) := by decide +kernel
theorem dL_law_390 : decode cL_law 390 = .ok (.iconst 1, 1) := by decide +kernel
theorem dL_law_391 : decode cL_law 391 = .ok (.invokestatic 254, 3) := by decide +kernel
theorem dL_law_394 : decode cL_law 394 = .ok (.ifCond .ne 16, 3) := by decide +kernel
theorem dL_law_397 : decode cL_law 397 = .ok (.aload_n 1, 1) := by decide +kernel
theorem dL_law_398 : decode cL_law 398 = .ok (.invokestatic 267, 3) := by decide +kernel
theorem dL_law_401 : decode cL_law 401 = .ok (.iload 12, 2) := by decide +kernel
theorem dL_law_403 : decode cL_law 403 = .ok (.if_icmp .ne 7, 3) := by decide +kernel
theorem dL_law_406 : decode cL_law 406 = .ok (.iconst 1, 1) := by decide +kernel
theorem dL_law_407 : decode cL_law 407 = .ok (.goto 4, 3) := by decide +kernel
theorem dL_law_410 : decode cL_law 410 = .ok (.iconst 0, 1) := by decide +kernel
theorem dL_law_411 : decode cL_law 411 = .ok (.istore_n 2, 1) := by decide +kernel
theorem dL_law_412 : decode cL_law 412 = .ok (.iinc 3 1, 3) := by decide +kernel
theorem dL_law_415 : decode cL_law 415 = .ok (.goto (-363), 3) := by decide +kernel
theorem dL_law_418 : decode cL_law 418 = .ok (.iload_n 2, 1) := by decide +kernel
theorem dL_law_419 : decode cL_law 419 = .ok (.ifCond .eq 14, 3) := by decide +kernel
theorem dL_law_422 : decode cL_law 422 = .ok (.aload_n 1, 1) := by decide +kernel
theorem dL_law_423 : decode cL_law 423 = .ok (.invokestatic 259, 3) := by decide +kernel
theorem dL_law_426 : decode cL_law 426 = .ok (.ifCond .eq 7, 3) := by decide +kernel
theorem dL_law_429 : decode cL_law 429 = .ok (.iconst 1, 1) := by decide +kernel
theorem dL_law_430 : decode cL_law 430 = .ok (.goto 4, 3) := by decide +kernel
theorem dL_law_433 : decode cL_law 433 = .ok (.iconst 0, 1) := by decide +kernel
theorem dL_law_434 : decode cL_law 434 = .ok (.ireturn, 1) := by decide +kernel
