theorem dX8_init_0 : decode cX8_init 0 = .ok (.aload_n 0, 1) := by decide +kernel
theorem dX8_init_1 : decode cX8_init 1 = .ok (.invokespecial 1, 3) := by decide +kernel
theorem dX8_init_4 : decode cX8_init 4 = .ok (.aload_n 0, 1) := by decide +kernel
theorem dX8_init_5 : decode cX8_init 5 = .ok (.sipush 18180, 3) := by decide +kernel
theorem dX8_init_8 : decode cX8_init 8 = .ok (.newarray .int, 2) := by decide +kernel
theorem dX8_init_10 : decode cX8_init 10 = .ok (.putfield 7, 3) := by decide +kernel
theorem dX8_init_13 : decode cX8_init 13 = .ok (.aload_n 0, 1) := by decide +kernel
theorem dX8_init_14 : decode cX8_init 14 = .ok (.iconst 2, 1) := by decide +kernel
theorem dX8_init_15 : decode cX8_init 15 = .ok (.newarray .boolean, 2) := by decide +kernel
theorem dX8_init_17 : decode cX8_init 17 = .ok (.putfield 13, 3) := by decide +kernel
theorem dX8_init_20 : decode cX8_init 20 = .ok (.aload_n 0, 1) := by decide +kernel
theorem dX8_init_21 : decode cX8_init 21 = .ok (.bipush 60, 2) := by decide +kernel
theorem dX8_init_23 : decode cX8_init 23 = .ok (.newarray .char, 2) := by decide +kernel
theorem dX8_init_25 : decode cX8_init 25 = .ok (.putfield 17, 3) := by decide +kernel
theorem dX8_init_28 : decode cX8_init 28 = .ok (.aload_n 0, 1) := by decide +kernel
theorem dX8_init_29 : decode cX8_init 29 = .ok (.getfield 7, 3) := by decide +kernel
theorem dX8_init_32 : decode cX8_init 32 = .ok (.iconst 2, 1) := by decide +kernel
theorem dX8_init_33 : decode cX8_init 33 = .ok (.iconst (-1), 1) := by decide +kernel
theorem dX8_init_34 : decode cX8_init 34 = .ok (.iastore, 1) := by decide +kernel
theorem dX8_init_35 : decode cX8_init 35 = .ok (.aload_n 0, 1) := by decide +kernel
theorem dX8_init_36 : decode cX8_init 36 = .ok (.getfield 7, 3) := by decide +kernel
theorem dX8_init_39 : decode cX8_init 39 = .ok (.iconst 5, 1) := by decide +kernel
theorem dX8_init_40 : decode cX8_init 40 = .ok (.iconst 5, 1) := by decide +kernel
theorem dX8_init_41 : decode cX8_init 41 = .ok (.iastore, 1) := by decide +kernel
theorem dX8_init_42 : decode cX8_init 42 = .ok (.return_, 1) := by decide +kernel
theorem dX8_thrown_0 : decode cX8_thrown 0 = .ok (.aload_n 0, 1) := by decide +kernel
theorem dX8_thrown_1 : decode cX8_thrown 1 = .ok (.getfield 21, 3) := by decide +kernel
theorem dX8_thrown_4 : decode cX8_thrown 4 = .ok (.ireturn, 1) := by decide +kernel
theorem dX8_in_0 : decode cX8_in 0 = .ok (.iload_n 0, 1) := by decide +kernel
theorem dX8_in_1 : decode cX8_in 1 = .ok (.iload_n 1, 1) := by decide +kernel
theorem dX8_in_2 : decode cX8_in 2 = .ok (.if_icmp .lt 12, 3) := by decide +kernel
theorem dX8_in_5 : decode cX8_in 5 = .ok (.iload_n 0, 1) := by decide +kernel
theorem dX8_in_6 : decode cX8_in 6 = .ok (.iload_n 2, 1) := by decide +kernel
theorem dX8_in_7 : decode cX8_in 7 = .ok (.if_icmp .gt 7, 3) := by decide +kernel
theorem dX8_in_10 : decode cX8_in 10 = .ok (.iconst 1, 1) := by decide +kernel
theorem dX8_in_11 : decode cX8_in 11 = .ok (.goto 4, 3) := by decide +kernel
theorem dX8_in_14 : decode cX8_in 14 = .ok (.iconst 0, 1) := by decide +kernel
theorem dX8_in_15 : decode cX8_in 15 = .ok (.ireturn, 1) := by decide +kernel
theorem dX8_goes_0 : decode cX8_goes 0 = .ok (.aload_n 0, 1) := by decide +kernel
theorem dX8_goes_1 : decode cX8_goes 1 = .ok (.iload_n 1, 1) := by decide +kernel
theorem dX8_goes_2 : decode cX8_goes 2 = .ok (.ifCond .ne 7, 3) := by decide +kernel
theorem dX8_goes_5 : decode cX8_goes 5 = .ok (.iconst 1, 1) := by decide +kernel
theorem dX8_goes_6 : decode cX8_goes 6 = .ok (.goto 20, 3) := by decide +kernel
theorem dX8_goes_9 : decode cX8_goes 9 = .ok (.iload_n 2, 1) := by decide +kernel
theorem dX8_goes_10 : decode cX8_goes 10 = .ok (.ifCond .ne 7, 3) := by decide +kernel
theorem dX8_goes_13 : decode cX8_goes 13 = .ok (.iconst 2, 1) := by decide +kernel
theorem dX8_goes_14 : decode cX8_goes 14 = .ok (.goto 12, 3) := by decide +kernel
theorem dX8_goes_17 : decode cX8_goes 17 = .ok (.iload_n 3, 1) := by decide +kernel
theorem dX8_goes_18 : decode cX8_goes 18 = .ok (.ifCond .ne 7, 3) := by decide +kernel
theorem dX8_goes_21 : decode cX8_goes 21 = .ok (.iconst 3, 1) := by decide +kernel
theorem dX8_goes_22 : decode cX8_goes 22 = .ok (.goto 4, 3) := by decide +kernel
theorem dX8_goes_25 : decode cX8_goes 25 = .ok (.iconst 0, 1) := by decide +kernel
theorem dX8_goes_26 : decode cX8_goes 26 = .ok (.putfield 21, 3) := by decide +kernel
theorem dX8_goes_29 : decode cX8_goes 29 = .ok (.aload_n 0, 1) := by decide +kernel
theorem dX8_goes_30 : decode cX8_goes 30 = .ok (.getfield 21, 3) := by decide +kernel
theorem dX8_goes_33 : decode cX8_goes 33 = .ok (.ifCond .ne 7, 3) := by decide +kernel
theorem dX8_goes_36 : decode cX8_goes 36 = .ok (.iconst 1, 1) := by decide +kernel
theorem dX8_goes_37 : decode cX8_goes 37 = .ok (.goto 4, 3) := by decide +kernel
theorem dX8_goes_40 : decode cX8_goes 40 = .ok (.iconst 0, 1) := by decide +kernel
theorem dX8_goes_41 : decode cX8_goes 41 = .ok (.ireturn, 1) := by decide +kernel
theorem dX8_copies_0 : decode cX8_copies 0 = .ok (.iconst 0, 1) := by decide +kernel
theorem dX8_copies_1 : decode cX8_copies 1 = .ok (.istore_n 3, 1) := by decide +kernel
theorem dX8_copies_2 : decode cX8_copies 2 = .ok (.iload_n 3, 1) := by decide +kernel
theorem dX8_copies_3 : decode cX8_copies 3 = .ok (.sipush 1818, 3) := by decide +kernel
theorem dX8_copies_6 : decode cX8_copies 6 = .ok (.if_icmp .ge 33, 3) := by decide +kernel
theorem dX8_copies_9 : decode cX8_copies 9 = .ok (.aload_n 0, 1) := by decide +kernel
theorem dX8_copies_10 : decode cX8_copies 10 = .ok (.getfield 7, 3) := by decide +kernel
theorem dX8_copies_13 : decode cX8_copies 13 = .ok (.sipush 1818, 3) := by decide +kernel
theorem dX8_copies_16 : decode cX8_copies 16 = .ok (.iload_n 2, 1) := by decide +kernel
theorem dX8_copies_17 : decode cX8_copies 17 = .ok (.imul, 1) := by decide +kernel
theorem dX8_copies_18 : decode cX8_copies 18 = .ok (.iload_n 3, 1) := by decide +kernel
theorem dX8_copies_19 : decode cX8_copies 19 = .ok (.iadd, 1) := by decide +kernel
theorem dX8_copies_20 : decode cX8_copies 20 = .ok (.aload_n 0, 1) := by decide +kernel
theorem dX8_copies_21 : decode cX8_copies 21 = .ok (.getfield 7, 3) := by decide +kernel
theorem dX8_copies_24 : decode cX8_copies 24 = .ok (.sipush 1818, 3) := by decide +kernel
theorem dX8_copies_27 : decode cX8_copies 27 = .ok (.iload_n 1, 1) := by decide +kernel
theorem dX8_copies_28 : decode cX8_copies 28 = .ok (.imul, 1) := by decide +kernel
theorem dX8_copies_29 : decode cX8_copies 29 = .ok (.iload_n 3, 1) := by decide +kernel
theorem dX8_copies_30 : decode cX8_copies 30 = .ok (.iadd, 1) := by decide +kernel
theorem dX8_copies_31 : decode cX8_copies 31 = .ok (.iaload, 1) := by decide +kernel
theorem dX8_copies_32 : decode cX8_copies 32 = .ok (.iastore, 1) := by decide +kernel
theorem dX8_copies_33 : decode cX8_copies 33 = .ok (.iinc 3 1, 3) := by decide +kernel
theorem dX8_copies_36 : decode cX8_copies 36 = .ok (.goto (-34), 3) := by decide +kernel
theorem dX8_copies_39 : decode cX8_copies 39 = .ok (.return_, 1) := by decide +kernel
theorem dX8_saves_0 : decode cX8_saves 0 = .ok (.aload_n 0, 1) := by decide +kernel
theorem dX8_saves_1 : decode cX8_saves 1 = .ok (.getfield 25, 3) := by decide +kernel
theorem dX8_saves_4 : decode cX8_saves 4 = .ok (.bipush 6, 2) := by decide +kernel
theorem dX8_saves_6 : decode cX8_saves 6 = .ok (.if_icmp .ne 35, 3) := by decide +kernel
theorem dX8_saves_9 : decode cX8_saves 9 = .ok (.iconst 1, 1) := by decide +kernel
theorem dX8_saves_10 : decode cX8_saves 10 = .ok (.istore_n 1, 1) := by decide +kernel
theorem dX8_saves_11 : decode cX8_saves 11 = .ok (.iload_n 1, 1) := by decide +kernel
theorem dX8_saves_12 : decode cX8_saves 12 = .ok (.bipush 6, 2) := by decide +kernel
theorem dX8_saves_14 : decode cX8_saves 14 = .ok (.if_icmp .ge 17, 3) := by decide +kernel
theorem dX8_saves_17 : decode cX8_saves 17 = .ok (.aload_n 0, 1) := by decide +kernel
theorem dX8_saves_18 : decode cX8_saves 18 = .ok (.iload_n 1, 1) := by decide +kernel
theorem dX8_saves_19 : decode cX8_saves 19 = .ok (.iconst 1, 1) := by decide +kernel
theorem dX8_saves_20 : decode cX8_saves 20 = .ok (.iadd, 1) := by decide +kernel
theorem dX8_saves_21 : decode cX8_saves 21 = .ok (.iload_n 1, 1) := by decide +kernel
theorem dX8_saves_22 : decode cX8_saves 22 = .ok (.invokevirtual 28, 3) := by decide +kernel
theorem dX8_saves_25 : decode cX8_saves 25 = .ok (.iinc 1 1, 3) := by decide +kernel
theorem dX8_saves_28 : decode cX8_saves 28 = .ok (.goto (-17), 3) := by decide +kernel
theorem dX8_saves_31 : decode cX8_saves 31 = .ok (.aload_n 0, 1) := by decide +kernel
theorem dX8_saves_32 : decode cX8_saves 32 = .ok (.dup, 1) := by decide +kernel
theorem dX8_saves_33 : decode cX8_saves 33 = .ok (.getfield 25, 3) := by decide +kernel
theorem dX8_saves_36 : decode cX8_saves 36 = .ok (.iconst 1, 1) := by decide +kernel
theorem dX8_saves_37 : decode cX8_saves 37 = .ok (.isub, 1) := by decide +kernel
theorem dX8_saves_38 : decode cX8_saves 38 = .ok (.putfield 25, 3) := by decide +kernel
theorem dX8_saves_41 : decode cX8_saves 41 = .ok (.aload_n 0, 1) := by decide +kernel
theorem dX8_saves_42 : decode cX8_saves 42 = .ok (.dup, 1) := by decide +kernel
theorem dX8_saves_43 : decode cX8_saves 43 = .ok (.getfield 25, 3) := by decide +kernel
theorem dX8_saves_46 : decode cX8_saves 46 = .ok (.iconst 1, 1) := by decide +kernel
theorem dX8_saves_47 : decode cX8_saves 47 = .ok (.iadd, 1) := by decide +kernel
theorem dX8_saves_48 : decode cX8_saves 48 = .ok (.putfield 25, 3) := by decide +kernel
theorem dX8_saves_51 : decode cX8_saves 51 = .ok (.aload_n 0, 1) := by decide +kernel
theorem dX8_saves_52 : decode cX8_saves 52 = .ok (.iconst 0, 1) := by decide +kernel
theorem dX8_saves_53 : decode cX8_saves 53 = .ok (.aload_n 0, 1) := by decide +kernel
theorem dX8_saves_54 : decode cX8_saves 54 = .ok (.getfield 25, 3) := by decide +kernel
theorem dX8_saves_57 : decode cX8_saves 57 = .ok (.invokevirtual 28, 3) := by decide +kernel
theorem dX8_saves_60 : decode cX8_saves 60 = .ok (.return_, 1) := by decide +kernel
theorem dX8_code_0 : decode cX8_code 0 = .ok (.aload_n 0, 1) := by decide +kernel
theorem dX8_code_1 : decode cX8_code 1 = .ok (.getfield 7, 3) := by decide +kernel
theorem dX8_code_4 : decode cX8_code 4 = .ok (.bipush 18, 2) := by decide +kernel
theorem dX8_code_6 : decode cX8_code 6 = .ok (.iload_n 1, 1) := by decide +kernel
theorem dX8_code_7 : decode cX8_code 7 = .ok (.iadd, 1) := by decide +kernel
theorem dX8_code_8 : decode cX8_code 8 = .ok (.iaload, 1) := by decide +kernel
theorem dX8_code_9 : decode cX8_code 9 = .ok (.ireturn, 1) := by decide +kernel
theorem dX8_isLetter_0 : decode cX8_isLetter 0 = .ok (.iload_n 0, 1) := by decide +kernel
theorem dX8_isLetter_1 : decode cX8_isLetter 1 = .ok (.bipush 97, 2) := by decide +kernel
theorem dX8_isLetter_3 : decode cX8_isLetter 3 = .ok (.bipush 122, 2) := by decide +kernel
theorem dX8_isLetter_5 : decode cX8_isLetter 5 = .ok (.invokestatic 32, 3) := by decide +kernel
theorem dX8_isLetter_8 : decode cX8_isLetter 8 = .ok (.ifCond .ne 25, 3) := by decide +kernel
theorem dX8_isLetter_11 : decode cX8_isLetter 11 = .ok (.iload_n 0, 1) := by decide +kernel
theorem dX8_isLetter_12 : decode cX8_isLetter 12 = .ok (.bipush 65, 2) := by decide +kernel
theorem dX8_isLetter_14 : decode cX8_isLetter 14 = .ok (.bipush 90, 2) := by decide +kernel
theorem dX8_isLetter_16 : decode cX8_isLetter 16 = .ok (.invokestatic 32, 3) := by decide +kernel
theorem dX8_isLetter_19 : decode cX8_isLetter 19 = .ok (.ifCond .ne 14, 3) := by decide +kernel
theorem dX8_isLetter_22 : decode cX8_isLetter 22 = .ok (.iload_n 0, 1) := by decide +kernel
theorem dX8_isLetter_23 : decode cX8_isLetter 23 = .ok (.bipush 48, 2) := by decide +kernel
theorem dX8_isLetter_25 : decode cX8_isLetter 25 = .ok (.bipush 57, 2) := by decide +kernel
theorem dX8_isLetter_27 : decode cX8_isLetter 27 = .ok (.invokestatic 32, 3) := by decide +kernel
theorem dX8_isLetter_30 : decode cX8_isLetter 30 = .ok (.ifCond .eq 7, 3) := by decide +kernel
theorem dX8_isLetter_33 : decode cX8_isLetter 33 = .ok (.iconst 1, 1) := by decide +kernel
theorem dX8_isLetter_34 : decode cX8_isLetter 34 = .ok (.goto 4, 3) := by decide +kernel
theorem dX8_isLetter_37 : decode cX8_isLetter 37 = .ok (.iconst 0, 1) := by decide +kernel
theorem dX8_isLetter_38 : decode cX8_isLetter 38 = .ok (.ireturn, 1) := by decide +kernel
theorem dX8_isWord_0 : decode cX8_isWord 0 = .ok (.iload_n 1, 1) := by decide +kernel
theorem dX8_isWord_1 : decode cX8_isWord 1 = .ok (.iconst 0, 1) := by decide +kernel
theorem dX8_isWord_2 : decode cX8_isWord 2 = .ok (.aload_n 0, 1) := by decide +kernel
theorem dX8_isWord_3 : decode cX8_isWord 3 = .ok (.getfield 7, 3) := by decide +kernel
theorem dX8_isWord_6 : decode cX8_isWord 6 = .ok (.iconst 0, 1) := by decide +kernel
theorem dX8_isWord_7 : decode cX8_isWord 7 = .ok (.iaload, 1) := by decide +kernel
theorem dX8_isWord_8 : decode cX8_isWord 8 = .ok (.iconst 1, 1) := by decide +kernel
theorem dX8_isWord_9 : decode cX8_isWord 9 = .ok (.isub, 1) := by decide +kernel
theorem dX8_isWord_10 : decode cX8_isWord 10 = .ok (.invokestatic 32, 3) := by decide +kernel
theorem dX8_isWord_13 : decode cX8_isWord 13 = .ok (.ifCond .eq 18, 3) := by decide +kernel
theorem dX8_isWord_16 : decode cX8_isWord 16 = .ok (.aload_n 0, 1) := by decide +kernel
theorem dX8_isWord_17 : decode cX8_isWord 17 = .ok (.iload_n 1, 1) := by decide +kernel
theorem dX8_isWord_18 : decode cX8_isWord 18 = .ok (.invokevirtual 36, 3) := by decide +kernel
theorem dX8_isWord_21 : decode cX8_isWord 21 = .ok (.invokestatic 40, 3) := by decide +kernel
theorem dX8_isWord_24 : decode cX8_isWord 24 = .ok (.ifCond .eq 7, 3) := by decide +kernel
theorem dX8_isWord_27 : decode cX8_isWord 27 = .ok (.iconst 1, 1) := by decide +kernel
theorem dX8_isWord_28 : decode cX8_isWord 28 = .ok (.goto 4, 3) := by decide +kernel
theorem dX8_isWord_31 : decode cX8_isWord 31 = .ok (.iconst 0, 1) := by decide +kernel
theorem dX8_isWord_32 : decode cX8_isWord 32 = .ok (.ireturn, 1) := by decide +kernel
theorem dX8_behindWord_0 : decode cX8_behindWord 0 = .ok (.iload_n 1, 1) := by decide +kernel
theorem dX8_behindWord_1 : decode cX8_behindWord 1 = .ok (.istore_n 2, 1) := by decide +kernel
theorem dX8_behindWord_2 : decode cX8_behindWord 2 = .ok (.iload_n 2, 1) := by decide +kernel
theorem dX8_behindWord_3 : decode cX8_behindWord 3 = .ok (.aload_n 0, 1) := by decide +kernel
theorem dX8_behindWord_4 : decode cX8_behindWord 4 = .ok (.getfield 7, 3) := by decide +kernel
theorem dX8_behindWord_7 : decode cX8_behindWord 7 = .ok (.iconst 0, 1) := by decide +kernel
theorem dX8_behindWord_8 : decode cX8_behindWord 8 = .ok (.iaload, 1) := by decide +kernel
theorem dX8_behindWord_9 : decode cX8_behindWord 9 = .ok (.if_icmp .ge 17, 3) := by decide +kernel
theorem dX8_behindWord_12 : decode cX8_behindWord 12 = .ok (.aload_n 0, 1) := by decide +kernel
theorem dX8_behindWord_13 : decode cX8_behindWord 13 = .ok (.iload_n 2, 1) := by decide +kernel
theorem dX8_behindWord_14 : decode cX8_behindWord 14 = .ok (.invokevirtual 44, 3) := by decide +kernel
theorem dX8_behindWord_17 : decode cX8_behindWord 17 = .ok (.ifCond .ne 9, 3) := by decide +kernel
theorem dX8_behindWord_20 : decode cX8_behindWord 20 = .ok (.iinc 2 1, 3) := by decide +kernel
theorem dX8_behindWord_23 : decode cX8_behindWord 23 = .ok (.goto (-21), 3) := by decide +kernel
theorem dX8_behindWord_26 : decode cX8_behindWord 26 = .ok (.aload_n 0, 1) := by decide +kernel
theorem dX8_behindWord_27 : decode cX8_behindWord 27 = .ok (.iload_n 2, 1) := by decide +kernel
theorem dX8_behindWord_28 : decode cX8_behindWord 28 = .ok (.invokevirtual 44, 3) := by decide +kernel
theorem dX8_behindWord_31 : decode cX8_behindWord 31 = .ok (.ifCond .eq 9, 3) := by decide +kernel
theorem dX8_behindWord_34 : decode cX8_behindWord 34 = .ok (.iinc 2 1, 3) := by decide +kernel
theorem dX8_behindWord_37 : decode cX8_behindWord 37 = .ok (.goto (-11), 3) := by decide +kernel
theorem dX8_behindWord_40 : decode cX8_behindWord 40 = .ok (.iload_n 2, 1) := by decide +kernel
theorem dX8_behindWord_41 : decode cX8_behindWord 41 = .ok (.ireturn, 1) := by decide +kernel
theorem dX8_aheadOfWord_0 : decode cX8_aheadOfWord 0 = .ok (.iload_n 1, 1) := by decide +kernel
theorem dX8_aheadOfWord_1 : decode cX8_aheadOfWord 1 = .ok (.istore_n 2, 1) := by decide +kernel
theorem dX8_aheadOfWord_2 : decode cX8_aheadOfWord 2 = .ok (.iload_n 2, 1) := by decide +kernel
theorem dX8_aheadOfWord_3 : decode cX8_aheadOfWord 3 = .ok (.ifCond .le 19, 3) := by decide +kernel
theorem dX8_aheadOfWord_6 : decode cX8_aheadOfWord 6 = .ok (.aload_n 0, 1) := by decide +kernel
theorem dX8_aheadOfWord_7 : decode cX8_aheadOfWord 7 = .ok (.iload_n 2, 1) := by decide +kernel
theorem dX8_aheadOfWord_8 : decode cX8_aheadOfWord 8 = .ok (.iconst 1, 1) := by decide +kernel
theorem dX8_aheadOfWord_9 : decode cX8_aheadOfWord 9 = .ok (.isub, 1) := by decide +kernel
theorem dX8_aheadOfWord_10 : decode cX8_aheadOfWord 10 = .ok (.invokevirtual 44, 3) := by decide +kernel
theorem dX8_aheadOfWord_13 : decode cX8_aheadOfWord 13 = .ok (.ifCond .ne 9, 3) := by decide +kernel
theorem dX8_aheadOfWord_16 : decode cX8_aheadOfWord 16 = .ok (.iinc 2 (-1), 3) := by decide +kernel
theorem dX8_aheadOfWord_19 : decode cX8_aheadOfWord 19 = .ok (.goto (-17), 3) := by decide +kernel
theorem dX8_aheadOfWord_22 : decode cX8_aheadOfWord 22 = .ok (.aload_n 0, 1) := by decide +kernel
theorem dX8_aheadOfWord_23 : decode cX8_aheadOfWord 23 = .ok (.iload_n 2, 1) := by decide +kernel
theorem dX8_aheadOfWord_24 : decode cX8_aheadOfWord 24 = .ok (.iconst 1, 1) := by decide +kernel
theorem dX8_aheadOfWord_25 : decode cX8_aheadOfWord 25 = .ok (.isub, 1) := by decide +kernel
theorem dX8_aheadOfWord_26 : decode cX8_aheadOfWord 26 = .ok (.invokevirtual 44, 3) := by decide +kernel
theorem dX8_aheadOfWord_29 : decode cX8_aheadOfWord 29 = .ok (.ifCond .eq 9, 3) := by decide +kernel
theorem dX8_aheadOfWord_32 : decode cX8_aheadOfWord 32 = .ok (.iinc 2 (-1), 3) := by decide +kernel
theorem dX8_aheadOfWord_35 : decode cX8_aheadOfWord 35 = .ok (.goto (-13), 3) := by decide +kernel
theorem dX8_aheadOfWord_38 : decode cX8_aheadOfWord 38 = .ok (.iload_n 2, 1) := by decide +kernel
theorem dX8_aheadOfWord_39 : decode cX8_aheadOfWord 39 = .ok (.ireturn, 1) := by decide +kernel
theorem dX8_beginOf_0 : decode cX8_beginOf 0 = .ok (.iload_n 1, 1) := by decide +kernel
theorem dX8_beginOf_1 : decode cX8_beginOf 1 = .ok (.istore_n 2, 1) := by decide +kernel
theorem dX8_beginOf_2 : decode cX8_beginOf 2 = .ok (.iload_n 2, 1) := by decide +kernel
theorem dX8_beginOf_3 : decode cX8_beginOf 3 = .ok (.ifCond .le 21, 3) := by decide +kernel
theorem dX8_beginOf_6 : decode cX8_beginOf 6 = .ok (.aload_n 0, 1) := by decide +kernel
theorem dX8_beginOf_7 : decode cX8_beginOf 7 = .ok (.iload_n 2, 1) := by decide +kernel
theorem dX8_beginOf_8 : decode cX8_beginOf 8 = .ok (.iconst 1, 1) := by decide +kernel
theorem dX8_beginOf_9 : decode cX8_beginOf 9 = .ok (.isub, 1) := by decide +kernel
theorem dX8_beginOf_10 : decode cX8_beginOf 10 = .ok (.invokevirtual 36, 3) := by decide +kernel
theorem dX8_beginOf_13 : decode cX8_beginOf 13 = .ok (.bipush 10, 2) := by decide +kernel
theorem dX8_beginOf_15 : decode cX8_beginOf 15 = .ok (.if_icmp .eq 9, 3) := by decide +kernel
theorem dX8_beginOf_18 : decode cX8_beginOf 18 = .ok (.iinc 2 (-1), 3) := by decide +kernel
theorem dX8_beginOf_21 : decode cX8_beginOf 21 = .ok (.goto (-19), 3) := by decide +kernel
theorem dX8_beginOf_24 : decode cX8_beginOf 24 = .ok (.iload_n 2, 1) := by decide +kernel
theorem dX8_beginOf_25 : decode cX8_beginOf 25 = .ok (.ireturn, 1) := by decide +kernel
theorem dX8_endOf_0 : decode cX8_endOf 0 = .ok (.iload_n 1, 1) := by decide +kernel
theorem dX8_endOf_1 : decode cX8_endOf 1 = .ok (.istore_n 2, 1) := by decide +kernel
theorem dX8_endOf_2 : decode cX8_endOf 2 = .ok (.iload_n 2, 1) := by decide +kernel
theorem dX8_endOf_3 : decode cX8_endOf 3 = .ok (.aload_n 0, 1) := by decide +kernel
theorem dX8_endOf_4 : decode cX8_endOf 4 = .ok (.getfield 7, 3) := by decide +kernel
theorem dX8_endOf_7 : decode cX8_endOf 7 = .ok (.iconst 0, 1) := by decide +kernel
theorem dX8_endOf_8 : decode cX8_endOf 8 = .ok (.iaload, 1) := by decide +kernel
theorem dX8_endOf_9 : decode cX8_endOf 9 = .ok (.if_icmp .ge 19, 3) := by decide +kernel
theorem dX8_endOf_12 : decode cX8_endOf 12 = .ok (.aload_n 0, 1) := by decide +kernel
theorem dX8_endOf_13 : decode cX8_endOf 13 = .ok (.iload_n 2, 1) := by decide +kernel
theorem dX8_endOf_14 : decode cX8_endOf 14 = .ok (.invokevirtual 36, 3) := by decide +kernel
theorem dX8_endOf_17 : decode cX8_endOf 17 = .ok (.bipush 10, 2) := by decide +kernel
theorem dX8_endOf_19 : decode cX8_endOf 19 = .ok (.if_icmp .eq 9, 3) := by decide +kernel
theorem dX8_endOf_22 : decode cX8_endOf 22 = .ok (.iinc 2 1, 3) := by decide +kernel
theorem dX8_endOf_25 : decode cX8_endOf 25 = .ok (.goto (-23), 3) := by decide +kernel
theorem dX8_endOf_28 : decode cX8_endOf 28 = .ok (.iload_n 2, 1) := by decide +kernel
theorem dX8_endOf_29 : decode cX8_endOf 29 = .ok (.ireturn, 1) := by decide +kernel
theorem dX8_moved_0 : decode cX8_moved 0 = .ok (.iload_n 0, 1) := by decide +kernel
theorem dX8_moved_1 : decode cX8_moved 1 = .ok (.iload_n 2, 1) := by decide +kernel
theorem dX8_moved_2 : decode cX8_moved 2 = .ok (.if_icmp .lt 11, 3) := by decide +kernel
theorem dX8_moved_5 : decode cX8_moved 5 = .ok (.iload_n 0, 1) := by decide +kernel
theorem dX8_moved_6 : decode cX8_moved 6 = .ok (.iload_n 2, 1) := by decide +kernel
theorem dX8_moved_7 : decode cX8_moved 7 = .ok (.iload_n 1, 1) := by decide +kernel
theorem dX8_moved_8 : decode cX8_moved 8 = .ok (.isub, 1) := by decide +kernel
theorem dX8_moved_9 : decode cX8_moved 9 = .ok (.isub, 1) := by decide +kernel
theorem dX8_moved_10 : decode cX8_moved 10 = .ok (.goto 13, 3) := by decide +kernel
theorem dX8_moved_13 : decode cX8_moved 13 = .ok (.iload_n 0, 1) := by decide +kernel
theorem dX8_moved_14 : decode cX8_moved 14 = .ok (.iload_n 1, 1) := by decide +kernel
theorem dX8_moved_15 : decode cX8_moved 15 = .ok (.if_icmp .le 7, 3) := by decide +kernel
theorem dX8_moved_18 : decode cX8_moved 18 = .ok (.iload_n 1, 1) := by decide +kernel
theorem dX8_moved_19 : decode cX8_moved 19 = .ok (.goto 4, 3) := by decide +kernel
theorem dX8_moved_22 : decode cX8_moved 22 = .ok (.iload_n 0, 1) := by decide +kernel
theorem dX8_moved_23 : decode cX8_moved 23 = .ok (.ireturn, 1) := by decide +kernel
theorem dX8_takesOut_0 : decode cX8_takesOut 0 = .ok (.iload_n 2, 1) := by decide +kernel
theorem dX8_takesOut_1 : decode cX8_takesOut 1 = .ok (.istore_n 3, 1) := by decide +kernel
theorem dX8_takesOut_2 : decode cX8_takesOut 2 = .ok (.iload_n 3, 1) := by decide +kernel
theorem dX8_takesOut_3 : decode cX8_takesOut 3 = .ok (.aload_n 0, 1) := by decide +kernel
theorem dX8_takesOut_4 : decode cX8_takesOut 4 = .ok (.getfield 7, 3) := by decide +kernel
theorem dX8_takesOut_7 : decode cX8_takesOut 7 = .ok (.iconst 0, 1) := by decide +kernel
theorem dX8_takesOut_8 : decode cX8_takesOut 8 = .ok (.iaload, 1) := by decide +kernel
theorem dX8_takesOut_9 : decode cX8_takesOut 9 = .ok (.if_icmp .ge 27, 3) := by decide +kernel
theorem dX8_takesOut_12 : decode cX8_takesOut 12 = .ok (.aload_n 0, 1) := by decide +kernel
theorem dX8_takesOut_13 : decode cX8_takesOut 13 = .ok (.getfield 7, 3) := by decide +kernel
theorem dX8_takesOut_16 : decode cX8_takesOut 16 = .ok (.bipush 18, 2) := by decide +kernel
theorem dX8_takesOut_18 : decode cX8_takesOut 18 = .ok (.iload_n 3, 1) := by decide +kernel
theorem dX8_takesOut_19 : decode cX8_takesOut 19 = .ok (.iadd, 1) := by decide +kernel
theorem dX8_takesOut_20 : decode cX8_takesOut 20 = .ok (.iload_n 2, 1) := by decide +kernel
theorem dX8_takesOut_21 : decode cX8_takesOut 21 = .ok (.iload_n 1, 1) := by decide +kernel
theorem dX8_takesOut_22 : decode cX8_takesOut 22 = .ok (.isub, 1) := by decide +kernel
theorem dX8_takesOut_23 : decode cX8_takesOut 23 = .ok (.isub, 1) := by decide +kernel
theorem dX8_takesOut_24 : decode cX8_takesOut 24 = .ok (.aload_n 0, 1) := by decide +kernel
theorem dX8_takesOut_25 : decode cX8_takesOut 25 = .ok (.iload_n 3, 1) := by decide +kernel
theorem dX8_takesOut_26 : decode cX8_takesOut 26 = .ok (.invokevirtual 36, 3) := by decide +kernel
theorem dX8_takesOut_29 : decode cX8_takesOut 29 = .ok (.iastore, 1) := by decide +kernel
theorem dX8_takesOut_30 : decode cX8_takesOut 30 = .ok (.iinc 3 1, 3) := by decide +kernel
theorem dX8_takesOut_33 : decode cX8_takesOut 33 = .ok (.goto (-31), 3) := by decide +kernel
theorem dX8_takesOut_36 : decode cX8_takesOut 36 = .ok (.aload_n 0, 1) := by decide +kernel
theorem dX8_takesOut_37 : decode cX8_takesOut 37 = .ok (.getfield 7, 3) := by decide +kernel
theorem dX8_takesOut_40 : decode cX8_takesOut 40 = .ok (.iconst 0, 1) := by decide +kernel
theorem dX8_takesOut_41 : decode cX8_takesOut 41 = .ok (.dup2, 1) := by decide +kernel
theorem dX8_takesOut_42 : decode cX8_takesOut 42 = .ok (.iaload, 1) := by decide +kernel
theorem dX8_takesOut_43 : decode cX8_takesOut 43 = .ok (.iload_n 2, 1) := by decide +kernel
theorem dX8_takesOut_44 : decode cX8_takesOut 44 = .ok (.iload_n 1, 1) := by decide +kernel
theorem dX8_takesOut_45 : decode cX8_takesOut 45 = .ok (.isub, 1) := by decide +kernel
theorem dX8_takesOut_46 : decode cX8_takesOut 46 = .ok (.isub, 1) := by decide +kernel
theorem dX8_takesOut_47 : decode cX8_takesOut 47 = .ok (.iastore, 1) := by decide +kernel
theorem dX8_takesOut_48 : decode cX8_takesOut 48 = .ok (.aload_n 0, 1) := by decide +kernel
theorem dX8_takesOut_49 : decode cX8_takesOut 49 = .ok (.getfield 7, 3) := by decide +kernel
theorem dX8_takesOut_52 : decode cX8_takesOut 52 = .ok (.iconst 1, 1) := by decide +kernel
theorem dX8_takesOut_53 : decode cX8_takesOut 53 = .ok (.aload_n 0, 1) := by decide +kernel
theorem dX8_takesOut_54 : decode cX8_takesOut 54 = .ok (.getfield 7, 3) := by decide +kernel
theorem dX8_takesOut_57 : decode cX8_takesOut 57 = .ok (.iconst 1, 1) := by decide +kernel
theorem dX8_takesOut_58 : decode cX8_takesOut 58 = .ok (.iaload, 1) := by decide +kernel
theorem dX8_takesOut_59 : decode cX8_takesOut 59 = .ok (.iload_n 1, 1) := by decide +kernel
theorem dX8_takesOut_60 : decode cX8_takesOut 60 = .ok (.iload_n 2, 1) := by decide +kernel
theorem dX8_takesOut_61 : decode cX8_takesOut 61 = .ok (.invokestatic 47, 3) := by decide +kernel
theorem dX8_takesOut_64 : decode cX8_takesOut 64 = .ok (.iastore, 1) := by decide +kernel
theorem dX8_takesOut_65 : decode cX8_takesOut 65 = .ok (.aload_n 0, 1) := by decide +kernel
theorem dX8_takesOut_66 : decode cX8_takesOut 66 = .ok (.getfield 7, 3) := by decide +kernel
theorem dX8_takesOut_69 : decode cX8_takesOut 69 = .ok (.iconst 2, 1) := by decide +kernel
theorem dX8_takesOut_70 : decode cX8_takesOut 70 = .ok (.aload_n 0, 1) := by decide +kernel
theorem dX8_takesOut_71 : decode cX8_takesOut 71 = .ok (.getfield 7, 3) := by decide +kernel
theorem dX8_takesOut_74 : decode cX8_takesOut 74 = .ok (.iconst 2, 1) := by decide +kernel
theorem dX8_takesOut_75 : decode cX8_takesOut 75 = .ok (.iaload, 1) := by decide +kernel
theorem dX8_takesOut_76 : decode cX8_takesOut 76 = .ok (.iload_n 1, 1) := by decide +kernel
theorem dX8_takesOut_77 : decode cX8_takesOut 77 = .ok (.iload_n 2, 1) := by decide +kernel
theorem dX8_takesOut_78 : decode cX8_takesOut 78 = .ok (.invokestatic 47, 3) := by decide +kernel
theorem dX8_takesOut_81 : decode cX8_takesOut 81 = .ok (.iastore, 1) := by decide +kernel
theorem dX8_takesOut_82 : decode cX8_takesOut 82 = .ok (.return_, 1) := by decide +kernel
theorem dX8_parts_0 : decode cX8_parts 0 = .ok (.aload_n 0, 1) := by decide +kernel
theorem dX8_parts_1 : decode cX8_parts 1 = .ok (.getfield 7, 3) := by decide +kernel
theorem dX8_parts_4 : decode cX8_parts 4 = .ok (.iconst 0, 1) := by decide +kernel
theorem dX8_parts_5 : decode cX8_parts 5 = .ok (.iaload, 1) := by decide +kernel
theorem dX8_parts_6 : decode cX8_parts 6 = .ok (.iconst 1, 1) := by decide +kernel
theorem dX8_parts_7 : decode cX8_parts 7 = .ok (.isub, 1) := by decide +kernel
theorem dX8_parts_8 : decode cX8_parts 8 = .ok (.istore_n 2, 1) := by decide +kernel
theorem dX8_parts_9 : decode cX8_parts 9 = .ok (.iload_n 2, 1) := by decide +kernel
theorem dX8_parts_10 : decode cX8_parts 10 = .ok (.aload_n 0, 1) := by decide +kernel
theorem dX8_parts_11 : decode cX8_parts 11 = .ok (.getfield 7, 3) := by decide +kernel
theorem dX8_parts_14 : decode cX8_parts 14 = .ok (.iconst 1, 1) := by decide +kernel
theorem dX8_parts_15 : decode cX8_parts 15 = .ok (.iaload, 1) := by decide +kernel
theorem dX8_parts_16 : decode cX8_parts 16 = .ok (.if_icmp .lt 25, 3) := by decide +kernel
theorem dX8_parts_19 : decode cX8_parts 19 = .ok (.aload_n 0, 1) := by decide +kernel
theorem dX8_parts_20 : decode cX8_parts 20 = .ok (.getfield 7, 3) := by decide +kernel
theorem dX8_parts_23 : decode cX8_parts 23 = .ok (.bipush 18, 2) := by decide +kernel
theorem dX8_parts_25 : decode cX8_parts 25 = .ok (.iload_n 2, 1) := by decide +kernel
theorem dX8_parts_26 : decode cX8_parts 26 = .ok (.iadd, 1) := by decide +kernel
theorem dX8_parts_27 : decode cX8_parts 27 = .ok (.iload_n 1, 1) := by decide +kernel
theorem dX8_parts_28 : decode cX8_parts 28 = .ok (.iadd, 1) := by decide +kernel
theorem dX8_parts_29 : decode cX8_parts 29 = .ok (.aload_n 0, 1) := by decide +kernel
theorem dX8_parts_30 : decode cX8_parts 30 = .ok (.iload_n 2, 1) := by decide +kernel
theorem dX8_parts_31 : decode cX8_parts 31 = .ok (.invokevirtual 36, 3) := by decide +kernel
theorem dX8_parts_34 : decode cX8_parts 34 = .ok (.iastore, 1) := by decide +kernel
theorem dX8_parts_35 : decode cX8_parts 35 = .ok (.iinc 2 (-1), 3) := by decide +kernel
theorem dX8_parts_38 : decode cX8_parts 38 = .ok (.goto (-29), 3) := by decide +kernel
theorem dX8_parts_41 : decode cX8_parts 41 = .ok (.aload_n 0, 1) := by decide +kernel
theorem dX8_parts_42 : decode cX8_parts 42 = .ok (.getfield 7, 3) := by decide +kernel
theorem dX8_parts_45 : decode cX8_parts 45 = .ok (.iconst 0, 1) := by decide +kernel
theorem dX8_parts_46 : decode cX8_parts 46 = .ok (.dup2, 1) := by decide +kernel
theorem dX8_parts_47 : decode cX8_parts 47 = .ok (.iaload, 1) := by decide +kernel
theorem dX8_parts_48 : decode cX8_parts 48 = .ok (.iload_n 1, 1) := by decide +kernel
theorem dX8_parts_49 : decode cX8_parts 49 = .ok (.iadd, 1) := by decide +kernel
theorem dX8_parts_50 : decode cX8_parts 50 = .ok (.iastore, 1) := by decide +kernel
theorem dX8_parts_51 : decode cX8_parts 51 = .ok (.aload_n 0, 1) := by decide +kernel
theorem dX8_parts_52 : decode cX8_parts 52 = .ok (.getfield 7, 3) := by decide +kernel
theorem dX8_parts_55 : decode cX8_parts 55 = .ok (.iconst 2, 1) := by decide +kernel
theorem dX8_parts_56 : decode cX8_parts 56 = .ok (.dup2, 1) := by decide +kernel
theorem dX8_parts_57 : decode cX8_parts 57 = .ok (.iaload, 1) := by decide +kernel
theorem dX8_parts_58 : decode cX8_parts 58 = .ok (.aload_n 0, 1) := by decide +kernel
theorem dX8_parts_59 : decode cX8_parts 59 = .ok (.getfield 7, 3) := by decide +kernel
theorem dX8_parts_62 : decode cX8_parts 62 = .ok (.iconst 2, 1) := by decide +kernel
theorem dX8_parts_63 : decode cX8_parts 63 = .ok (.iaload, 1) := by decide +kernel
theorem dX8_parts_64 : decode cX8_parts 64 = .ok (.aload_n 0, 1) := by decide +kernel
theorem dX8_parts_65 : decode cX8_parts 65 = .ok (.getfield 7, 3) := by decide +kernel
theorem dX8_parts_68 : decode cX8_parts 68 = .ok (.iconst 1, 1) := by decide +kernel
theorem dX8_parts_69 : decode cX8_parts 69 = .ok (.iaload, 1) := by decide +kernel
theorem dX8_parts_70 : decode cX8_parts 70 = .ok (.if_icmp .le 7, 3) := by decide +kernel
theorem dX8_parts_73 : decode cX8_parts 73 = .ok (.iload_n 1, 1) := by decide +kernel
theorem dX8_parts_74 : decode cX8_parts 74 = .ok (.goto 4, 3) := by decide +kernel
theorem dX8_parts_77 : decode cX8_parts 77 = .ok (.iconst 0, 1) := by decide +kernel
theorem dX8_parts_78 : decode cX8_parts 78 = .ok (.iadd, 1) := by decide +kernel
theorem dX8_parts_79 : decode cX8_parts 79 = .ok (.iastore, 1) := by decide +kernel
theorem dX8_parts_80 : decode cX8_parts 80 = .ok (.return_, 1) := by decide +kernel
theorem dX8_writes_0 : decode cX8_writes 0 = .ok (.aload_n 0, 1) := by decide +kernel
theorem dX8_writes_1 : decode cX8_writes 1 = .ok (.getfield 7, 3) := by decide +kernel
theorem dX8_writes_4 : decode cX8_writes 4 = .ok (.iconst 0, 1) := by decide +kernel
theorem dX8_writes_5 : decode cX8_writes 5 = .ok (.iaload, 1) := by decide +kernel
theorem dX8_writes_6 : decode cX8_writes 6 = .ok (.sipush 200, 3) := by decide +kernel
theorem dX8_writes_9 : decode cX8_writes 9 = .ok (.if_icmp .ne 5, 3) := by decide +kernel
theorem dX8_writes_12 : decode cX8_writes 12 = .ok (.iconst (-1), 1) := by decide +kernel
theorem dX8_writes_13 : decode cX8_writes 13 = .ok (.ireturn, 1) := by decide +kernel
theorem dX8_writes_14 : decode cX8_writes 14 = .ok (.aload_n 0, 1) := by decide +kernel
theorem dX8_writes_15 : decode cX8_writes 15 = .ok (.iconst 1, 1) := by decide +kernel
theorem dX8_writes_16 : decode cX8_writes 16 = .ok (.invokevirtual 51, 3) := by decide +kernel
theorem dX8_writes_19 : decode cX8_writes 19 = .ok (.aload_n 0, 1) := by decide +kernel
theorem dX8_writes_20 : decode cX8_writes 20 = .ok (.getfield 7, 3) := by decide +kernel
theorem dX8_writes_23 : decode cX8_writes 23 = .ok (.bipush 18, 2) := by decide +kernel
theorem dX8_writes_25 : decode cX8_writes 25 = .ok (.aload_n 0, 1) := by decide +kernel
theorem dX8_writes_26 : decode cX8_writes 26 = .ok (.getfield 7, 3) := by decide +kernel
theorem dX8_writes_29 : decode cX8_writes 29 = .ok (.iconst 1, 1) := by decide +kernel
theorem dX8_writes_30 : decode cX8_writes 30 = .ok (.iaload, 1) := by decide +kernel
theorem dX8_writes_31 : decode cX8_writes 31 = .ok (.iadd, 1) := by decide +kernel
theorem dX8_writes_32 : decode cX8_writes 32 = .ok (.iload_n 1, 1) := by decide +kernel
theorem dX8_writes_33 : decode cX8_writes 33 = .ok (.iastore, 1) := by decide +kernel
theorem dX8_writes_34 : decode cX8_writes 34 = .ok (.aload_n 0, 1) := by decide +kernel
theorem dX8_writes_35 : decode cX8_writes 35 = .ok (.getfield 7, 3) := by decide +kernel
theorem dX8_writes_38 : decode cX8_writes 38 = .ok (.iconst 1, 1) := by decide +kernel
theorem dX8_writes_39 : decode cX8_writes 39 = .ok (.dup2, 1) := by decide +kernel
theorem dX8_writes_40 : decode cX8_writes 40 = .ok (.iaload, 1) := by decide +kernel
theorem dX8_writes_41 : decode cX8_writes 41 = .ok (.iconst 1, 1) := by decide +kernel
theorem dX8_writes_42 : decode cX8_writes 42 = .ok (.iadd, 1) := by decide +kernel
theorem dX8_writes_43 : decode cX8_writes 43 = .ok (.iastore, 1) := by decide +kernel
theorem dX8_writes_44 : decode cX8_writes 44 = .ok (.aload_n 0, 1) := by decide +kernel
theorem dX8_writes_45 : decode cX8_writes 45 = .ok (.getfield 7, 3) := by decide +kernel
theorem dX8_writes_48 : decode cX8_writes 48 = .ok (.bipush 8, 2) := by decide +kernel
theorem dX8_writes_50 : decode cX8_writes 50 = .ok (.dup2, 1) := by decide +kernel
theorem dX8_writes_51 : decode cX8_writes 51 = .ok (.iaload, 1) := by decide +kernel
theorem dX8_writes_52 : decode cX8_writes 52 = .ok (.iconst 1, 1) := by decide +kernel
theorem dX8_writes_53 : decode cX8_writes 53 = .ok (.iadd, 1) := by decide +kernel
theorem dX8_writes_54 : decode cX8_writes 54 = .ok (.iastore, 1) := by decide +kernel
theorem dX8_writes_55 : decode cX8_writes 55 = .ok (.aload_n 0, 1) := by decide +kernel
theorem dX8_writes_56 : decode cX8_writes 56 = .ok (.getfield 7, 3) := by decide +kernel
theorem dX8_writes_59 : decode cX8_writes 59 = .ok (.iconst 0, 1) := by decide +kernel
theorem dX8_writes_60 : decode cX8_writes 60 = .ok (.iaload, 1) := by decide +kernel
theorem dX8_writes_61 : decode cX8_writes 61 = .ok (.ireturn, 1) := by decide +kernel
theorem dX8_rubs_0 : decode cX8_rubs 0 = .ok (.aload_n 0, 1) := by decide +kernel
theorem dX8_rubs_1 : decode cX8_rubs 1 = .ok (.getfield 7, 3) := by decide +kernel
theorem dX8_rubs_4 : decode cX8_rubs 4 = .ok (.iconst 1, 1) := by decide +kernel
theorem dX8_rubs_5 : decode cX8_rubs 5 = .ok (.iaload, 1) := by decide +kernel
theorem dX8_rubs_6 : decode cX8_rubs 6 = .ok (.ifCond .ne 5, 3) := by decide +kernel
theorem dX8_rubs_9 : decode cX8_rubs 9 = .ok (.iconst (-1), 1) := by decide +kernel
theorem dX8_rubs_10 : decode cX8_rubs 10 = .ok (.ireturn, 1) := by decide +kernel
theorem dX8_rubs_11 : decode cX8_rubs 11 = .ok (.aload_n 0, 1) := by decide +kernel
theorem dX8_rubs_12 : decode cX8_rubs 12 = .ok (.aload_n 0, 1) := by decide +kernel
theorem dX8_rubs_13 : decode cX8_rubs 13 = .ok (.getfield 7, 3) := by decide +kernel
theorem dX8_rubs_16 : decode cX8_rubs 16 = .ok (.iconst 1, 1) := by decide +kernel
theorem dX8_rubs_17 : decode cX8_rubs 17 = .ok (.iaload, 1) := by decide +kernel
theorem dX8_rubs_18 : decode cX8_rubs 18 = .ok (.iconst 1, 1) := by decide +kernel
theorem dX8_rubs_19 : decode cX8_rubs 19 = .ok (.isub, 1) := by decide +kernel
theorem dX8_rubs_20 : decode cX8_rubs 20 = .ok (.invokevirtual 36, 3) := by decide +kernel
theorem dX8_rubs_23 : decode cX8_rubs 23 = .ok (.istore_n 1, 1) := by decide +kernel
theorem dX8_rubs_24 : decode cX8_rubs 24 = .ok (.aload_n 0, 1) := by decide +kernel
theorem dX8_rubs_25 : decode cX8_rubs 25 = .ok (.aload_n 0, 1) := by decide +kernel
theorem dX8_rubs_26 : decode cX8_rubs 26 = .ok (.getfield 7, 3) := by decide +kernel
theorem dX8_rubs_29 : decode cX8_rubs 29 = .ok (.iconst 1, 1) := by decide +kernel
theorem dX8_rubs_30 : decode cX8_rubs 30 = .ok (.iaload, 1) := by decide +kernel
theorem dX8_rubs_31 : decode cX8_rubs 31 = .ok (.iconst 1, 1) := by decide +kernel
theorem dX8_rubs_32 : decode cX8_rubs 32 = .ok (.isub, 1) := by decide +kernel
theorem dX8_rubs_33 : decode cX8_rubs 33 = .ok (.aload_n 0, 1) := by decide +kernel
theorem dX8_rubs_34 : decode cX8_rubs 34 = .ok (.getfield 7, 3) := by decide +kernel
theorem dX8_rubs_37 : decode cX8_rubs 37 = .ok (.iconst 1, 1) := by decide +kernel
theorem dX8_rubs_38 : decode cX8_rubs 38 = .ok (.iaload, 1) := by decide +kernel
theorem dX8_rubs_39 : decode cX8_rubs 39 = .ok (.invokevirtual 55, 3) := by decide +kernel
theorem dX8_rubs_42 : decode cX8_rubs 42 = .ok (.aload_n 0, 1) := by decide +kernel
theorem dX8_rubs_43 : decode cX8_rubs 43 = .ok (.getfield 7, 3) := by decide +kernel
theorem dX8_rubs_46 : decode cX8_rubs 46 = .ok (.bipush 8, 2) := by decide +kernel
theorem dX8_rubs_48 : decode cX8_rubs 48 = .ok (.dup2, 1) := by decide +kernel
theorem dX8_rubs_49 : decode cX8_rubs 49 = .ok (.iaload, 1) := by decide +kernel
theorem dX8_rubs_50 : decode cX8_rubs 50 = .ok (.iconst 1, 1) := by decide +kernel
theorem dX8_rubs_51 : decode cX8_rubs 51 = .ok (.iadd, 1) := by decide +kernel
theorem dX8_rubs_52 : decode cX8_rubs 52 = .ok (.iastore, 1) := by decide +kernel
theorem dX8_rubs_53 : decode cX8_rubs 53 = .ok (.iload_n 1, 1) := by decide +kernel
theorem dX8_rubs_54 : decode cX8_rubs 54 = .ok (.ireturn, 1) := by decide +kernel
theorem dX8_swaps_0 : decode cX8_swaps 0 = .ok (.aload_n 0, 1) := by decide +kernel
theorem dX8_swaps_1 : decode cX8_swaps 1 = .ok (.getfield 7, 3) := by decide +kernel
theorem dX8_swaps_4 : decode cX8_swaps 4 = .ok (.iconst 1, 1) := by decide +kernel
theorem dX8_swaps_5 : decode cX8_swaps 5 = .ok (.iaload, 1) := by decide +kernel
theorem dX8_swaps_6 : decode cX8_swaps 6 = .ok (.ifCond .eq 18, 3) := by decide +kernel
theorem dX8_swaps_9 : decode cX8_swaps 9 = .ok (.aload_n 0, 1) := by decide +kernel
theorem dX8_swaps_10 : decode cX8_swaps 10 = .ok (.getfield 7, 3) := by decide +kernel
theorem dX8_swaps_13 : decode cX8_swaps 13 = .ok (.iconst 1, 1) := by decide +kernel
theorem dX8_swaps_14 : decode cX8_swaps 14 = .ok (.iaload, 1) := by decide +kernel
theorem dX8_swaps_15 : decode cX8_swaps 15 = .ok (.aload_n 0, 1) := by decide +kernel
theorem dX8_swaps_16 : decode cX8_swaps 16 = .ok (.getfield 7, 3) := by decide +kernel
theorem dX8_swaps_19 : decode cX8_swaps 19 = .ok (.iconst 0, 1) := by decide +kernel
theorem dX8_swaps_20 : decode cX8_swaps 20 = .ok (.iaload, 1) := by decide +kernel
theorem dX8_swaps_21 : decode cX8_swaps 21 = .ok (.if_icmp .ne 5, 3) := by decide +kernel
theorem dX8_swaps_24 : decode cX8_swaps 24 = .ok (.iconst (-1), 1) := by decide +kernel
theorem dX8_swaps_25 : decode cX8_swaps 25 = .ok (.ireturn, 1) := by decide +kernel
theorem dX8_swaps_26 : decode cX8_swaps 26 = .ok (.bipush 18, 2) := by decide +kernel
theorem dX8_swaps_28 : decode cX8_swaps 28 = .ok (.aload_n 0, 1) := by decide +kernel
theorem dX8_swaps_29 : decode cX8_swaps 29 = .ok (.getfield 7, 3) := by decide +kernel
theorem dX8_swaps_32 : decode cX8_swaps 32 = .ok (.iconst 1, 1) := by decide +kernel
theorem dX8_swaps_33 : decode cX8_swaps 33 = .ok (.iaload, 1) := by decide +kernel
theorem dX8_swaps_34 : decode cX8_swaps 34 = .ok (.iadd, 1) := by decide +kernel
theorem dX8_swaps_35 : decode cX8_swaps 35 = .ok (.istore_n 1, 1) := by decide +kernel
theorem dX8_swaps_36 : decode cX8_swaps 36 = .ok (.aload_n 0, 1) := by decide +kernel
theorem dX8_swaps_37 : decode cX8_swaps 37 = .ok (.getfield 7, 3) := by decide +kernel
theorem dX8_swaps_40 : decode cX8_swaps 40 = .ok (.iload_n 1, 1) := by decide +kernel
theorem dX8_swaps_41 : decode cX8_swaps 41 = .ok (.iconst 1, 1) := by decide +kernel
theorem dX8_swaps_42 : decode cX8_swaps 42 = .ok (.isub, 1) := by decide +kernel
theorem dX8_swaps_43 : decode cX8_swaps 43 = .ok (.iaload, 1) := by decide +kernel
theorem dX8_swaps_44 : decode cX8_swaps 44 = .ok (.istore_n 2, 1) := by decide +kernel
theorem dX8_swaps_45 : decode cX8_swaps 45 = .ok (.aload_n 0, 1) := by decide +kernel
theorem dX8_swaps_46 : decode cX8_swaps 46 = .ok (.getfield 7, 3) := by decide +kernel
theorem dX8_swaps_49 : decode cX8_swaps 49 = .ok (.iload_n 1, 1) := by decide +kernel
theorem dX8_swaps_50 : decode cX8_swaps 50 = .ok (.iconst 1, 1) := by decide +kernel
theorem dX8_swaps_51 : decode cX8_swaps 51 = .ok (.isub, 1) := by decide +kernel
theorem dX8_swaps_52 : decode cX8_swaps 52 = .ok (.aload_n 0, 1) := by decide +kernel
theorem dX8_swaps_53 : decode cX8_swaps 53 = .ok (.getfield 7, 3) := by decide +kernel
theorem dX8_swaps_56 : decode cX8_swaps 56 = .ok (.iload_n 1, 1) := by decide +kernel
theorem dX8_swaps_57 : decode cX8_swaps 57 = .ok (.iaload, 1) := by decide +kernel
theorem dX8_swaps_58 : decode cX8_swaps 58 = .ok (.iastore, 1) := by decide +kernel
theorem dX8_swaps_59 : decode cX8_swaps 59 = .ok (.aload_n 0, 1) := by decide +kernel
theorem dX8_swaps_60 : decode cX8_swaps 60 = .ok (.getfield 7, 3) := by decide +kernel
theorem dX8_swaps_63 : decode cX8_swaps 63 = .ok (.iload_n 1, 1) := by decide +kernel
theorem dX8_swaps_64 : decode cX8_swaps 64 = .ok (.iload_n 2, 1) := by decide +kernel
theorem dX8_swaps_65 : decode cX8_swaps 65 = .ok (.iastore, 1) := by decide +kernel
theorem dX8_swaps_66 : decode cX8_swaps 66 = .ok (.aload_n 0, 1) := by decide +kernel
theorem dX8_swaps_67 : decode cX8_swaps 67 = .ok (.getfield 7, 3) := by decide +kernel
theorem dX8_swaps_70 : decode cX8_swaps 70 = .ok (.iconst 1, 1) := by decide +kernel
theorem dX8_swaps_71 : decode cX8_swaps 71 = .ok (.dup2, 1) := by decide +kernel
theorem dX8_swaps_72 : decode cX8_swaps 72 = .ok (.iaload, 1) := by decide +kernel
theorem dX8_swaps_73 : decode cX8_swaps 73 = .ok (.iconst 1, 1) := by decide +kernel
theorem dX8_swaps_74 : decode cX8_swaps 74 = .ok (.iadd, 1) := by decide +kernel
theorem dX8_swaps_75 : decode cX8_swaps 75 = .ok (.iastore, 1) := by decide +kernel
theorem dX8_swaps_76 : decode cX8_swaps 76 = .ok (.iload_n 2, 1) := by decide +kernel
theorem dX8_swaps_77 : decode cX8_swaps 77 = .ok (.ireturn, 1) := by decide +kernel
theorem dX8_greatens_0 : decode cX8_greatens 0 = .ok (.aload_n 0, 1) := by decide +kernel
theorem dX8_greatens_1 : decode cX8_greatens 1 = .ok (.aload_n 0, 1) := by decide +kernel
theorem dX8_greatens_2 : decode cX8_greatens 2 = .ok (.getfield 7, 3) := by decide +kernel
theorem dX8_greatens_5 : decode cX8_greatens 5 = .ok (.iconst 1, 1) := by decide +kernel
theorem dX8_greatens_6 : decode cX8_greatens 6 = .ok (.iaload, 1) := by decide +kernel
theorem dX8_greatens_7 : decode cX8_greatens 7 = .ok (.invokevirtual 58, 3) := by decide +kernel
theorem dX8_greatens_10 : decode cX8_greatens 10 = .ok (.istore_n 1, 1) := by decide +kernel
theorem dX8_greatens_11 : decode cX8_greatens 11 = .ok (.iconst 0, 1) := by decide +kernel
theorem dX8_greatens_12 : decode cX8_greatens 12 = .ok (.istore_n 2, 1) := by decide +kernel
theorem dX8_greatens_13 : decode cX8_greatens 13 = .ok (.aload_n 0, 1) := by decide +kernel
theorem dX8_greatens_14 : decode cX8_greatens 14 = .ok (.getfield 7, 3) := by decide +kernel
theorem dX8_greatens_17 : decode cX8_greatens 17 = .ok (.iconst 1, 1) := by decide +kernel
theorem dX8_greatens_18 : decode cX8_greatens 18 = .ok (.iaload, 1) := by decide +kernel
theorem dX8_greatens_19 : decode cX8_greatens 19 = .ok (.istore_n 3, 1) := by decide +kernel
theorem dX8_greatens_20 : decode cX8_greatens 20 = .ok (.iload_n 3, 1) := by decide +kernel
theorem dX8_greatens_21 : decode cX8_greatens 21 = .ok (.iload_n 1, 1) := by decide +kernel
theorem dX8_greatens_22 : decode cX8_greatens 22 = .ok (.if_icmp .ge 41, 3) := by decide +kernel
theorem dX8_greatens_25 : decode cX8_greatens 25 = .ok (.aload_n 0, 1) := by decide +kernel
theorem dX8_greatens_26 : decode cX8_greatens 26 = .ok (.iload_n 3, 1) := by decide +kernel
theorem dX8_greatens_27 : decode cX8_greatens 27 = .ok (.invokevirtual 36, 3) := by decide +kernel
theorem dX8_greatens_30 : decode cX8_greatens 30 = .ok (.bipush 97, 2) := by decide +kernel
theorem dX8_greatens_32 : decode cX8_greatens 32 = .ok (.bipush 122, 2) := by decide +kernel
theorem dX8_greatens_34 : decode cX8_greatens 34 = .ok (.invokestatic 32, 3) := by decide +kernel
theorem dX8_greatens_37 : decode cX8_greatens 37 = .ok (.ifCond .eq 20, 3) := by decide +kernel
theorem dX8_greatens_40 : decode cX8_greatens 40 = .ok (.aload_n 0, 1) := by decide +kernel
theorem dX8_greatens_41 : decode cX8_greatens 41 = .ok (.getfield 7, 3) := by decide +kernel
theorem dX8_greatens_44 : decode cX8_greatens 44 = .ok (.bipush 18, 2) := by decide +kernel
theorem dX8_greatens_46 : decode cX8_greatens 46 = .ok (.iload_n 3, 1) := by decide +kernel
theorem dX8_greatens_47 : decode cX8_greatens 47 = .ok (.iadd, 1) := by decide +kernel
theorem dX8_greatens_48 : decode cX8_greatens 48 = .ok (.dup2, 1) := by decide +kernel
theorem dX8_greatens_49 : decode cX8_greatens 49 = .ok (.iaload, 1) := by decide +kernel
theorem dX8_greatens_50 : decode cX8_greatens 50 = .ok (.bipush 32, 2) := by decide +kernel
theorem dX8_greatens_52 : decode cX8_greatens 52 = .ok (.isub, 1) := by decide +kernel
theorem dX8_greatens_53 : decode cX8_greatens 53 = .ok (.iastore, 1) := by decide +kernel
theorem dX8_greatens_54 : decode cX8_greatens 54 = .ok (.iinc 2 1, 3) := by decide +kernel
theorem dX8_greatens_57 : decode cX8_greatens 57 = .ok (.iinc 3 1, 3) := by decide +kernel
theorem dX8_greatens_60 : decode cX8_greatens 60 = .ok (.goto (-40), 3) := by decide +kernel
theorem dX8_greatens_63 : decode cX8_greatens 63 = .ok (.aload_n 0, 1) := by decide +kernel
theorem dX8_greatens_64 : decode cX8_greatens 64 = .ok (.getfield 7, 3) := by decide +kernel
theorem dX8_greatens_67 : decode cX8_greatens 67 = .ok (.iconst 1, 1) := by decide +kernel
theorem dX8_greatens_68 : decode cX8_greatens 68 = .ok (.iload_n 1, 1) := by decide +kernel
theorem dX8_greatens_69 : decode cX8_greatens 69 = .ok (.iastore, 1) := by decide +kernel
theorem dX8_greatens_70 : decode cX8_greatens 70 = .ok (.iload_n 2, 1) := by decide +kernel
theorem dX8_greatens_71 : decode cX8_greatens 71 = .ok (.ireturn, 1) := by decide +kernel
theorem dX8_goesTo_0 : decode cX8_goesTo 0 = .ok (.iload_n 1, 1) := by decide +kernel
theorem dX8_goesTo_1 : decode cX8_goesTo 1 = .ok (.iconst 0, 1) := by decide +kernel
theorem dX8_goesTo_2 : decode cX8_goesTo 2 = .ok (.aload_n 0, 1) := by decide +kernel
theorem dX8_goesTo_3 : decode cX8_goesTo 3 = .ok (.getfield 7, 3) := by decide +kernel
theorem dX8_goesTo_6 : decode cX8_goesTo 6 = .ok (.iconst 0, 1) := by decide +kernel
theorem dX8_goesTo_7 : decode cX8_goesTo 7 = .ok (.iaload, 1) := by decide +kernel
theorem dX8_goesTo_8 : decode cX8_goesTo 8 = .ok (.invokestatic 32, 3) := by decide +kernel
theorem dX8_goesTo_11 : decode cX8_goesTo 11 = .ok (.ifCond .ne 5, 3) := by decide +kernel
theorem dX8_goesTo_14 : decode cX8_goesTo 14 = .ok (.iconst (-1), 1) := by decide +kernel
theorem dX8_goesTo_15 : decode cX8_goesTo 15 = .ok (.ireturn, 1) := by decide +kernel
theorem dX8_goesTo_16 : decode cX8_goesTo 16 = .ok (.iload_n 1, 1) := by decide +kernel
theorem dX8_goesTo_17 : decode cX8_goesTo 17 = .ok (.aload_n 0, 1) := by decide +kernel
theorem dX8_goesTo_18 : decode cX8_goesTo 18 = .ok (.getfield 7, 3) := by decide +kernel
theorem dX8_goesTo_21 : decode cX8_goesTo 21 = .ok (.iconst 1, 1) := by decide +kernel
theorem dX8_goesTo_22 : decode cX8_goesTo 22 = .ok (.iaload, 1) := by decide +kernel
theorem dX8_goesTo_23 : decode cX8_goesTo 23 = .ok (.if_icmp .le 14, 3) := by decide +kernel
theorem dX8_goesTo_26 : decode cX8_goesTo 26 = .ok (.iload_n 1, 1) := by decide +kernel
theorem dX8_goesTo_27 : decode cX8_goesTo 27 = .ok (.aload_n 0, 1) := by decide +kernel
theorem dX8_goesTo_28 : decode cX8_goesTo 28 = .ok (.getfield 7, 3) := by decide +kernel
theorem dX8_goesTo_31 : decode cX8_goesTo 31 = .ok (.iconst 1, 1) := by decide +kernel
theorem dX8_goesTo_32 : decode cX8_goesTo 32 = .ok (.iaload, 1) := by decide +kernel
theorem dX8_goesTo_33 : decode cX8_goesTo 33 = .ok (.isub, 1) := by decide +kernel
theorem dX8_goesTo_34 : decode cX8_goesTo 34 = .ok (.goto 11, 3) := by decide +kernel
theorem dX8_goesTo_37 : decode cX8_goesTo 37 = .ok (.aload_n 0, 1) := by decide +kernel
theorem dX8_goesTo_38 : decode cX8_goesTo 38 = .ok (.getfield 7, 3) := by decide +kernel
theorem dX8_goesTo_41 : decode cX8_goesTo 41 = .ok (.iconst 1, 1) := by decide +kernel
theorem dX8_goesTo_42 : decode cX8_goesTo 42 = .ok (.iaload, 1) := by decide +kernel
theorem dX8_goesTo_43 : decode cX8_goesTo 43 = .ok (.iload_n 1, 1) := by decide +kernel
theorem dX8_goesTo_44 : decode cX8_goesTo 44 = .ok (.isub, 1) := by decide +kernel
theorem dX8_goesTo_45 : decode cX8_goesTo 45 = .ok (.istore_n 2, 1) := by decide +kernel
theorem dX8_goesTo_46 : decode cX8_goesTo 46 = .ok (.aload_n 0, 1) := by decide +kernel
theorem dX8_goesTo_47 : decode cX8_goesTo 47 = .ok (.getfield 7, 3) := by decide +kernel
theorem dX8_goesTo_50 : decode cX8_goesTo 50 = .ok (.iconst 1, 1) := by decide +kernel
theorem dX8_goesTo_51 : decode cX8_goesTo 51 = .ok (.iload_n 1, 1) := by decide +kernel
theorem dX8_goesTo_52 : decode cX8_goesTo 52 = .ok (.iastore, 1) := by decide +kernel
theorem dX8_goesTo_53 : decode cX8_goesTo 53 = .ok (.iload_n 2, 1) := by decide +kernel
theorem dX8_goesTo_54 : decode cX8_goesTo 54 = .ok (.ireturn, 1) := by decide +kernel
theorem dX8_lineAt_0 : decode cX8_lineAt 0 = .ok (.aload_n 0, 1) := by decide +kernel
theorem dX8_lineAt_1 : decode cX8_lineAt 1 = .ok (.getfield 7, 3) := by decide +kernel
theorem dX8_lineAt_4 : decode cX8_lineAt 4 = .ok (.iconst 1, 1) := by decide +kernel
theorem dX8_lineAt_5 : decode cX8_lineAt 5 = .ok (.iaload, 1) := by decide +kernel
theorem dX8_lineAt_6 : decode cX8_lineAt 6 = .ok (.aload_n 0, 1) := by decide +kernel
theorem dX8_lineAt_7 : decode cX8_lineAt 7 = .ok (.aload_n 0, 1) := by decide +kernel
theorem dX8_lineAt_8 : decode cX8_lineAt 8 = .ok (.getfield 7, 3) := by decide +kernel
theorem dX8_lineAt_11 : decode cX8_lineAt 11 = .ok (.iconst 1, 1) := by decide +kernel
theorem dX8_lineAt_12 : decode cX8_lineAt 12 = .ok (.iaload, 1) := by decide +kernel
theorem dX8_lineAt_13 : decode cX8_lineAt 13 = .ok (.invokevirtual 61, 3) := by decide +kernel
theorem dX8_lineAt_16 : decode cX8_lineAt 16 = .ok (.isub, 1) := by decide +kernel
theorem dX8_lineAt_17 : decode cX8_lineAt 17 = .ok (.istore_n 2, 1) := by decide +kernel
theorem dX8_lineAt_18 : decode cX8_lineAt 18 = .ok (.aload_n 0, 1) := by decide +kernel
theorem dX8_lineAt_19 : decode cX8_lineAt 19 = .ok (.aload_n 0, 1) := by decide +kernel
theorem dX8_lineAt_20 : decode cX8_lineAt 20 = .ok (.getfield 7, 3) := by decide +kernel
theorem dX8_lineAt_23 : decode cX8_lineAt 23 = .ok (.iconst 1, 1) := by decide +kernel
theorem dX8_lineAt_24 : decode cX8_lineAt 24 = .ok (.iaload, 1) := by decide +kernel
theorem dX8_lineAt_25 : decode cX8_lineAt 25 = .ok (.invokevirtual 61, 3) := by decide +kernel
theorem dX8_lineAt_28 : decode cX8_lineAt 28 = .ok (.istore_n 3, 1) := by decide +kernel
theorem dX8_lineAt_29 : decode cX8_lineAt 29 = .ok (.iconst 1, 1) := by decide +kernel
theorem dX8_lineAt_30 : decode cX8_lineAt 30 = .ok (.istore 4, 2) := by decide +kernel
theorem dX8_lineAt_32 : decode cX8_lineAt 32 = .ok (.iconst 0, 1) := by decide +kernel
theorem dX8_lineAt_33 : decode cX8_lineAt 33 = .ok (.istore 5, 2) := by decide +kernel
theorem dX8_lineAt_35 : decode cX8_lineAt 35 = .ok (.iload 5, 2) := by decide +kernel
theorem dX8_lineAt_37 : decode cX8_lineAt 37 = .ok (.iload_n 1, 1) := by decide +kernel
theorem dX8_lineAt_38 : decode cX8_lineAt 38 = .ok (.if_icmp .ge 52, 3) := by decide +kernel
theorem dX8_lineAt_41 : decode cX8_lineAt 41 = .ok (.iload 4, 2) := by decide +kernel
theorem dX8_lineAt_43 : decode cX8_lineAt 43 = .ok (.ifCond .eq 47, 3) := by decide +kernel
theorem dX8_lineAt_46 : decode cX8_lineAt 46 = .ok (.aload_n 0, 1) := by decide +kernel
theorem dX8_lineAt_47 : decode cX8_lineAt 47 = .ok (.iload_n 3, 1) := by decide +kernel
theorem dX8_lineAt_48 : decode cX8_lineAt 48 = .ok (.invokevirtual 64, 3) := by decide +kernel
theorem dX8_lineAt_51 : decode cX8_lineAt 51 = .ok (.aload_n 0, 1) := by decide +kernel
theorem dX8_lineAt_52 : decode cX8_lineAt 52 = .ok (.getfield 7, 3) := by decide +kernel
theorem dX8_lineAt_55 : decode cX8_lineAt 55 = .ok (.iconst 0, 1) := by decide +kernel
theorem dX8_lineAt_56 : decode cX8_lineAt 56 = .ok (.iaload, 1) := by decide +kernel
theorem dX8_lineAt_57 : decode cX8_lineAt 57 = .ok (.if_icmp .ge 7, 3) := by decide +kernel
theorem dX8_lineAt_60 : decode cX8_lineAt 60 = .ok (.iconst 1, 1) := by decide +kernel
theorem dX8_lineAt_61 : decode cX8_lineAt 61 = .ok (.goto 4, 3) := by decide +kernel
theorem dX8_lineAt_64 : decode cX8_lineAt 64 = .ok (.iconst 0, 1) := by decide +kernel
theorem dX8_lineAt_65 : decode cX8_lineAt 65 = .ok (.istore 4, 2) := by decide +kernel
theorem dX8_lineAt_67 : decode cX8_lineAt 67 = .ok (.iload 4, 2) := by decide +kernel
theorem dX8_lineAt_69 : decode cX8_lineAt 69 = .ok (.ifCond .eq 13, 3) := by decide +kernel
theorem dX8_lineAt_72 : decode cX8_lineAt 72 = .ok (.aload_n 0, 1) := by decide +kernel
theorem dX8_lineAt_73 : decode cX8_lineAt 73 = .ok (.iload_n 3, 1) := by decide +kernel
theorem dX8_lineAt_74 : decode cX8_lineAt 74 = .ok (.invokevirtual 64, 3) := by decide +kernel
theorem dX8_lineAt_77 : decode cX8_lineAt 77 = .ok (.iconst 1, 1) := by decide +kernel
theorem dX8_lineAt_78 : decode cX8_lineAt 78 = .ok (.iadd, 1) := by decide +kernel
theorem dX8_lineAt_79 : decode cX8_lineAt 79 = .ok (.goto 4, 3) := by decide +kernel
theorem dX8_lineAt_82 : decode cX8_lineAt 82 = .ok (.iload_n 3, 1) := by decide +kernel
theorem dX8_lineAt_83 : decode cX8_lineAt 83 = .ok (.istore_n 3, 1) := by decide +kernel
theorem dX8_lineAt_84 : decode cX8_lineAt 84 = .ok (.iinc 5 1, 3) := by decide +kernel
theorem dX8_lineAt_87 : decode cX8_lineAt 87 = .ok (.goto (-52), 3) := by decide +kernel
theorem dX8_lineAt_90 : decode cX8_lineAt 90 = .ok (.iconst 0, 1) := by decide +kernel
theorem dX8_lineAt_91 : decode cX8_lineAt 91 = .ok (.istore 5, 2) := by decide +kernel
theorem dX8_lineAt_93 : decode cX8_lineAt 93 = .ok (.iload 5, 2) := by decide +kernel
theorem dX8_lineAt_95 : decode cX8_lineAt 95 = .ok (.iload_n 1, 1) := by decide +kernel
theorem dX8_lineAt_96 : decode cX8_lineAt 96 = .ok (.ineg, 1) := by decide +kernel
theorem dX8_lineAt_97 : decode cX8_lineAt 97 = .ok (.if_icmp .ge 42, 3) := by decide +kernel
theorem dX8_lineAt_100 : decode cX8_lineAt 100 = .ok (.iload 4, 2) := by decide +kernel
theorem dX8_lineAt_102 : decode cX8_lineAt 102 = .ok (.ifCond .eq 37, 3) := by decide +kernel
theorem dX8_lineAt_105 : decode cX8_lineAt 105 = .ok (.iload_n 3, 1) := by decide +kernel
theorem dX8_lineAt_106 : decode cX8_lineAt 106 = .ok (.ifCond .le 7, 3) := by decide +kernel
theorem dX8_lineAt_109 : decode cX8_lineAt 109 = .ok (.iconst 1, 1) := by decide +kernel
theorem dX8_lineAt_110 : decode cX8_lineAt 110 = .ok (.goto 4, 3) := by decide +kernel
theorem dX8_lineAt_113 : decode cX8_lineAt 113 = .ok (.iconst 0, 1) := by decide +kernel
theorem dX8_lineAt_114 : decode cX8_lineAt 114 = .ok (.istore 4, 2) := by decide +kernel
theorem dX8_lineAt_116 : decode cX8_lineAt 116 = .ok (.iload 4, 2) := by decide +kernel
theorem dX8_lineAt_118 : decode cX8_lineAt 118 = .ok (.ifCond .eq 13, 3) := by decide +kernel
theorem dX8_lineAt_121 : decode cX8_lineAt 121 = .ok (.aload_n 0, 1) := by decide +kernel
theorem dX8_lineAt_122 : decode cX8_lineAt 122 = .ok (.iload_n 3, 1) := by decide +kernel
theorem dX8_lineAt_123 : decode cX8_lineAt 123 = .ok (.iconst 1, 1) := by decide +kernel
theorem dX8_lineAt_124 : decode cX8_lineAt 124 = .ok (.isub, 1) := by decide +kernel
theorem dX8_lineAt_125 : decode cX8_lineAt 125 = .ok (.invokevirtual 61, 3) := by decide +kernel
theorem dX8_lineAt_128 : decode cX8_lineAt 128 = .ok (.goto 4, 3) := by decide +kernel
theorem dX8_lineAt_131 : decode cX8_lineAt 131 = .ok (.iload_n 3, 1) := by decide +kernel
theorem dX8_lineAt_132 : decode cX8_lineAt 132 = .ok (.istore_n 3, 1) := by decide +kernel
theorem dX8_lineAt_133 : decode cX8_lineAt 133 = .ok (.iinc 5 1, 3) := by decide +kernel
theorem dX8_lineAt_136 : decode cX8_lineAt 136 = .ok (.goto (-43), 3) := by decide +kernel
theorem dX8_lineAt_139 : decode cX8_lineAt 139 = .ok (.aload_n 0, 1) := by decide +kernel
theorem dX8_lineAt_140 : decode cX8_lineAt 140 = .ok (.iload_n 3, 1) := by decide +kernel
theorem dX8_lineAt_141 : decode cX8_lineAt 141 = .ok (.invokevirtual 64, 3) := by decide +kernel
theorem dX8_lineAt_144 : decode cX8_lineAt 144 = .ok (.iload_n 3, 1) := by decide +kernel
theorem dX8_lineAt_145 : decode cX8_lineAt 145 = .ok (.isub, 1) := by decide +kernel
theorem dX8_lineAt_146 : decode cX8_lineAt 146 = .ok (.istore 5, 2) := by decide +kernel
theorem dX8_lineAt_148 : decode cX8_lineAt 148 = .ok (.iload 4, 2) := by decide +kernel
theorem dX8_lineAt_150 : decode cX8_lineAt 150 = .ok (.ifCond .ne 7, 3) := by decide +kernel
theorem dX8_lineAt_153 : decode cX8_lineAt 153 = .ok (.iconst (-1), 1) := by decide +kernel
theorem dX8_lineAt_154 : decode cX8_lineAt 154 = .ok (.goto 17, 3) := by decide +kernel
theorem dX8_lineAt_157 : decode cX8_lineAt 157 = .ok (.iload_n 3, 1) := by decide +kernel
theorem dX8_lineAt_158 : decode cX8_lineAt 158 = .ok (.iload_n 2, 1) := by decide +kernel
theorem dX8_lineAt_159 : decode cX8_lineAt 159 = .ok (.iload 5, 2) := by decide +kernel
theorem dX8_lineAt_161 : decode cX8_lineAt 161 = .ok (.if_icmp .ge 7, 3) := by decide +kernel
theorem dX8_lineAt_164 : decode cX8_lineAt 164 = .ok (.iload_n 2, 1) := by decide +kernel
theorem dX8_lineAt_165 : decode cX8_lineAt 165 = .ok (.goto 5, 3) := by decide +kernel
theorem dX8_lineAt_168 : decode cX8_lineAt 168 = .ok (.iload 5, 2) := by decide +kernel
theorem dX8_lineAt_170 : decode cX8_lineAt 170 = .ok (.iadd, 1) := by decide +kernel
theorem dX8_lineAt_171 : decode cX8_lineAt 171 = .ok (.ireturn, 1) := by decide +kernel
theorem dX8_marks_0 : decode cX8_marks 0 = .ok (.aload_n 0, 1) := by decide +kernel
theorem dX8_marks_1 : decode cX8_marks 1 = .ok (.getfield 7, 3) := by decide +kernel
theorem dX8_marks_4 : decode cX8_marks 4 = .ok (.iconst 2, 1) := by decide +kernel
theorem dX8_marks_5 : decode cX8_marks 5 = .ok (.aload_n 0, 1) := by decide +kernel
theorem dX8_marks_6 : decode cX8_marks 6 = .ok (.getfield 7, 3) := by decide +kernel
theorem dX8_marks_9 : decode cX8_marks 9 = .ok (.iconst 1, 1) := by decide +kernel
theorem dX8_marks_10 : decode cX8_marks 10 = .ok (.iaload, 1) := by decide +kernel
theorem dX8_marks_11 : decode cX8_marks 11 = .ok (.iastore, 1) := by decide +kernel
theorem dX8_marks_12 : decode cX8_marks 12 = .ok (.aload_n 0, 1) := by decide +kernel
theorem dX8_marks_13 : decode cX8_marks 13 = .ok (.getfield 7, 3) := by decide +kernel
theorem dX8_marks_16 : decode cX8_marks 16 = .ok (.iconst 1, 1) := by decide +kernel
theorem dX8_marks_17 : decode cX8_marks 17 = .ok (.iaload, 1) := by decide +kernel
theorem dX8_marks_18 : decode cX8_marks 18 = .ok (.ireturn, 1) := by decide +kernel
theorem dX8_exchanges_0 : decode cX8_exchanges 0 = .ok (.aload_n 0, 1) := by decide +kernel
theorem dX8_exchanges_1 : decode cX8_exchanges 1 = .ok (.getfield 7, 3) := by decide +kernel
theorem dX8_exchanges_4 : decode cX8_exchanges 4 = .ok (.iconst 2, 1) := by decide +kernel
theorem dX8_exchanges_5 : decode cX8_exchanges 5 = .ok (.iaload, 1) := by decide +kernel
theorem dX8_exchanges_6 : decode cX8_exchanges 6 = .ok (.ifCond .ge 5, 3) := by decide +kernel
theorem dX8_exchanges_9 : decode cX8_exchanges 9 = .ok (.iconst (-1), 1) := by decide +kernel
theorem dX8_exchanges_10 : decode cX8_exchanges 10 = .ok (.ireturn, 1) := by decide +kernel
theorem dX8_exchanges_11 : decode cX8_exchanges 11 = .ok (.aload_n 0, 1) := by decide +kernel
theorem dX8_exchanges_12 : decode cX8_exchanges 12 = .ok (.getfield 7, 3) := by decide +kernel
theorem dX8_exchanges_15 : decode cX8_exchanges 15 = .ok (.iconst 2, 1) := by decide +kernel
theorem dX8_exchanges_16 : decode cX8_exchanges 16 = .ok (.iaload, 1) := by decide +kernel
theorem dX8_exchanges_17 : decode cX8_exchanges 17 = .ok (.istore_n 1, 1) := by decide +kernel
theorem dX8_exchanges_18 : decode cX8_exchanges 18 = .ok (.aload_n 0, 1) := by decide +kernel
theorem dX8_exchanges_19 : decode cX8_exchanges 19 = .ok (.getfield 7, 3) := by decide +kernel
theorem dX8_exchanges_22 : decode cX8_exchanges 22 = .ok (.iconst 2, 1) := by decide +kernel
theorem dX8_exchanges_23 : decode cX8_exchanges 23 = .ok (.aload_n 0, 1) := by decide +kernel
theorem dX8_exchanges_24 : decode cX8_exchanges 24 = .ok (.getfield 7, 3) := by decide +kernel
theorem dX8_exchanges_27 : decode cX8_exchanges 27 = .ok (.iconst 1, 1) := by decide +kernel
theorem dX8_exchanges_28 : decode cX8_exchanges 28 = .ok (.iaload, 1) := by decide +kernel
theorem dX8_exchanges_29 : decode cX8_exchanges 29 = .ok (.iastore, 1) := by decide +kernel
theorem dX8_exchanges_30 : decode cX8_exchanges 30 = .ok (.aload_n 0, 1) := by decide +kernel
theorem dX8_exchanges_31 : decode cX8_exchanges 31 = .ok (.getfield 7, 3) := by decide +kernel
theorem dX8_exchanges_34 : decode cX8_exchanges 34 = .ok (.iconst 1, 1) := by decide +kernel
theorem dX8_exchanges_35 : decode cX8_exchanges 35 = .ok (.iload_n 1, 1) := by decide +kernel
theorem dX8_exchanges_36 : decode cX8_exchanges 36 = .ok (.iastore, 1) := by decide +kernel
theorem dX8_exchanges_37 : decode cX8_exchanges 37 = .ok (.iload_n 1, 1) := by decide +kernel
theorem dX8_exchanges_38 : decode cX8_exchanges 38 = .ok (.ireturn, 1) := by decide +kernel
theorem dX8_collects_0 : decode cX8_collects 0 = .ok (.aload_n 0, 1) := by decide +kernel
theorem dX8_collects_1 : decode cX8_collects 1 = .ok (.getfield 7, 3) := by decide +kernel
theorem dX8_collects_4 : decode cX8_collects 4 = .ok (.iconst 3, 1) := by decide +kernel
theorem dX8_collects_5 : decode cX8_collects 5 = .ok (.iaload, 1) := by decide +kernel
theorem dX8_collects_6 : decode cX8_collects 6 = .ok (.aload_n 0, 1) := by decide +kernel
theorem dX8_collects_7 : decode cX8_collects 7 = .ok (.getfield 7, 3) := by decide +kernel
theorem dX8_collects_10 : decode cX8_collects 10 = .ok (.iconst 5, 1) := by decide +kernel
theorem dX8_collects_11 : decode cX8_collects 11 = .ok (.iaload, 1) := by decide +kernel
theorem dX8_collects_12 : decode cX8_collects 12 = .ok (.if_icmp .ne 7, 3) := by decide +kernel
theorem dX8_collects_15 : decode cX8_collects 15 = .ok (.iconst 1, 1) := by decide +kernel
theorem dX8_collects_16 : decode cX8_collects 16 = .ok (.goto 4, 3) := by decide +kernel
theorem dX8_collects_19 : decode cX8_collects 19 = .ok (.iconst 0, 1) := by decide +kernel
theorem dX8_collects_20 : decode cX8_collects 20 = .ok (.istore_n 3, 1) := by decide +kernel
theorem dX8_collects_21 : decode cX8_collects 21 = .ok (.aload_n 0, 1) := by decide +kernel
theorem dX8_collects_22 : decode cX8_collects 22 = .ok (.getfield 7, 3) := by decide +kernel
theorem dX8_collects_25 : decode cX8_collects 25 = .ok (.iconst 3, 1) := by decide +kernel
theorem dX8_collects_26 : decode cX8_collects 26 = .ok (.dup2, 1) := by decide +kernel
theorem dX8_collects_27 : decode cX8_collects 27 = .ok (.iaload, 1) := by decide +kernel
theorem dX8_collects_28 : decode cX8_collects 28 = .ok (.iload_n 3, 1) := by decide +kernel
theorem dX8_collects_29 : decode cX8_collects 29 = .ok (.ifCond .eq 7, 3) := by decide +kernel
theorem dX8_collects_32 : decode cX8_collects 32 = .ok (.iconst 0, 1) := by decide +kernel
theorem dX8_collects_33 : decode cX8_collects 33 = .ok (.goto 4, 3) := by decide +kernel
theorem dX8_collects_36 : decode cX8_collects 36 = .ok (.iconst 1, 1) := by decide +kernel
theorem dX8_collects_37 : decode cX8_collects 37 = .ok (.iadd, 1) := by decide +kernel
theorem dX8_collects_38 : decode cX8_collects 38 = .ok (.iastore, 1) := by decide +kernel
theorem dX8_collects_39 : decode cX8_collects 39 = .ok (.aload_n 0, 1) := by decide +kernel
theorem dX8_collects_40 : decode cX8_collects 40 = .ok (.getfield 7, 3) := by decide +kernel
theorem dX8_collects_43 : decode cX8_collects 43 = .ok (.bipush 9, 2) := by decide +kernel
theorem dX8_collects_45 : decode cX8_collects 45 = .ok (.dup2, 1) := by decide +kernel
theorem dX8_collects_46 : decode cX8_collects 46 = .ok (.iaload, 1) := by decide +kernel
theorem dX8_collects_47 : decode cX8_collects 47 = .ok (.iload_n 3, 1) := by decide +kernel
theorem dX8_collects_48 : decode cX8_collects 48 = .ok (.ifCond .eq 7, 3) := by decide +kernel
theorem dX8_collects_51 : decode cX8_collects 51 = .ok (.iconst 1, 1) := by decide +kernel
theorem dX8_collects_52 : decode cX8_collects 52 = .ok (.goto 4, 3) := by decide +kernel
theorem dX8_collects_55 : decode cX8_collects 55 = .ok (.iconst 0, 1) := by decide +kernel
theorem dX8_collects_56 : decode cX8_collects 56 = .ok (.iadd, 1) := by decide +kernel
theorem dX8_collects_57 : decode cX8_collects 57 = .ok (.iastore, 1) := by decide +kernel
theorem dX8_collects_58 : decode cX8_collects 58 = .ok (.aload_n 0, 1) := by decide +kernel
theorem dX8_collects_59 : decode cX8_collects 59 = .ok (.getfield 7, 3) := by decide +kernel
theorem dX8_collects_62 : decode cX8_collects 62 = .ok (.iconst 3, 1) := by decide +kernel
theorem dX8_collects_63 : decode cX8_collects 63 = .ok (.iaload, 1) := by decide +kernel
theorem dX8_collects_64 : decode cX8_collects 64 = .ok (.iconst 1, 1) := by decide +kernel
theorem dX8_collects_65 : decode cX8_collects 65 = .ok (.isub, 1) := by decide +kernel
theorem dX8_collects_66 : decode cX8_collects 66 = .ok (.istore 4, 2) := by decide +kernel
theorem dX8_collects_68 : decode cX8_collects 68 = .ok (.iload 4, 2) := by decide +kernel
theorem dX8_collects_70 : decode cX8_collects 70 = .ok (.ifCond .le 93, 3) := by decide +kernel
theorem dX8_collects_73 : decode cX8_collects 73 = .ok (.aload_n 0, 1) := by decide +kernel
theorem dX8_collects_74 : decode cX8_collects 74 = .ok (.getfield 7, 3) := by decide +kernel
theorem dX8_collects_77 : decode cX8_collects 77 = .ok (.bipush 10, 2) := by decide +kernel
theorem dX8_collects_79 : decode cX8_collects 79 = .ok (.iload 4, 2) := by decide +kernel
theorem dX8_collects_81 : decode cX8_collects 81 = .ok (.iadd, 1) := by decide +kernel
theorem dX8_collects_82 : decode cX8_collects 82 = .ok (.aload_n 0, 1) := by decide +kernel
theorem dX8_collects_83 : decode cX8_collects 83 = .ok (.getfield 7, 3) := by decide +kernel
theorem dX8_collects_86 : decode cX8_collects 86 = .ok (.bipush 10, 2) := by decide +kernel
theorem dX8_collects_88 : decode cX8_collects 88 = .ok (.iload 4, 2) := by decide +kernel
theorem dX8_collects_90 : decode cX8_collects 90 = .ok (.iadd, 1) := by decide +kernel
theorem dX8_collects_91 : decode cX8_collects 91 = .ok (.iconst 1, 1) := by decide +kernel
theorem dX8_collects_92 : decode cX8_collects 92 = .ok (.isub, 1) := by decide +kernel
theorem dX8_collects_93 : decode cX8_collects 93 = .ok (.iaload, 1) := by decide +kernel
theorem dX8_collects_94 : decode cX8_collects 94 = .ok (.iastore, 1) := by decide +kernel
theorem dX8_collects_95 : decode cX8_collects 95 = .ok (.iconst 0, 1) := by decide +kernel
theorem dX8_collects_96 : decode cX8_collects 96 = .ok (.istore 5, 2) := by decide +kernel
theorem dX8_collects_98 : decode cX8_collects 98 = .ok (.iload 5, 2) := by decide +kernel
theorem dX8_collects_100 : decode cX8_collects 100 = .ok (.aload_n 0, 1) := by decide +kernel
theorem dX8_collects_101 : decode cX8_collects 101 = .ok (.getfield 7, 3) := by decide +kernel
theorem dX8_collects_104 : decode cX8_collects 104 = .ok (.bipush 10, 2) := by decide +kernel
theorem dX8_collects_106 : decode cX8_collects 106 = .ok (.iload 4, 2) := by decide +kernel
theorem dX8_collects_108 : decode cX8_collects 108 = .ok (.iadd, 1) := by decide +kernel
theorem dX8_collects_109 : decode cX8_collects 109 = .ok (.iaload, 1) := by decide +kernel
theorem dX8_collects_110 : decode cX8_collects 110 = .ok (.if_icmp .ge 47, 3) := by decide +kernel
theorem dX8_collects_113 : decode cX8_collects 113 = .ok (.aload_n 0, 1) := by decide +kernel
theorem dX8_collects_114 : decode cX8_collects 114 = .ok (.getfield 7, 3) := by decide +kernel
theorem dX8_collects_117 : decode cX8_collects 117 = .ok (.sipush 218, 3) := by decide +kernel
theorem dX8_collects_120 : decode cX8_collects 120 = .ok (.sipush 200, 3) := by decide +kernel
theorem dX8_collects_123 : decode cX8_collects 123 = .ok (.iload 4, 2) := by decide +kernel
theorem dX8_collects_125 : decode cX8_collects 125 = .ok (.imul, 1) := by decide +kernel
theorem dX8_collects_126 : decode cX8_collects 126 = .ok (.iadd, 1) := by decide +kernel
theorem dX8_collects_127 : decode cX8_collects 127 = .ok (.iload 5, 2) := by decide +kernel
theorem dX8_collects_129 : decode cX8_collects 129 = .ok (.iadd, 1) := by decide +kernel
theorem dX8_collects_130 : decode cX8_collects 130 = .ok (.aload_n 0, 1) := by decide +kernel
theorem dX8_collects_131 : decode cX8_collects 131 = .ok (.getfield 7, 3) := by decide +kernel
theorem dX8_collects_134 : decode cX8_collects 134 = .ok (.sipush 218, 3) := by decide +kernel
theorem dX8_collects_137 : decode cX8_collects 137 = .ok (.sipush 200, 3) := by decide +kernel
theorem dX8_collects_140 : decode cX8_collects 140 = .ok (.iload 4, 2) := by decide +kernel
theorem dX8_collects_142 : decode cX8_collects 142 = .ok (.iconst 1, 1) := by decide +kernel
theorem dX8_collects_143 : decode cX8_collects 143 = .ok (.isub, 1) := by decide +kernel
theorem dX8_collects_144 : decode cX8_collects 144 = .ok (.imul, 1) := by decide +kernel
theorem dX8_collects_145 : decode cX8_collects 145 = .ok (.iadd, 1) := by decide +kernel
theorem dX8_collects_146 : decode cX8_collects 146 = .ok (.iload 5, 2) := by decide +kernel
theorem dX8_collects_148 : decode cX8_collects 148 = .ok (.iadd, 1) := by decide +kernel
theorem dX8_collects_149 : decode cX8_collects 149 = .ok (.iaload, 1) := by decide +kernel
theorem dX8_collects_150 : decode cX8_collects 150 = .ok (.iastore, 1) := by decide +kernel
theorem dX8_collects_151 : decode cX8_collects 151 = .ok (.iinc 5 1, 3) := by decide +kernel
theorem dX8_collects_154 : decode cX8_collects 154 = .ok (.goto (-56), 3) := by decide +kernel
theorem dX8_collects_157 : decode cX8_collects 157 = .ok (.iinc 4 (-1), 3) := by decide +kernel
theorem dX8_collects_160 : decode cX8_collects 160 = .ok (.goto (-92), 3) := by decide +kernel
theorem dX8_collects_163 : decode cX8_collects 163 = .ok (.aload_n 0, 1) := by decide +kernel
theorem dX8_collects_164 : decode cX8_collects 164 = .ok (.getfield 7, 3) := by decide +kernel
theorem dX8_collects_167 : decode cX8_collects 167 = .ok (.bipush 10, 2) := by decide +kernel
theorem dX8_collects_169 : decode cX8_collects 169 = .ok (.iload_n 2, 1) := by decide +kernel
theorem dX8_collects_170 : decode cX8_collects 170 = .ok (.iload_n 1, 1) := by decide +kernel
theorem dX8_collects_171 : decode cX8_collects 171 = .ok (.isub, 1) := by decide +kernel
theorem dX8_collects_172 : decode cX8_collects 172 = .ok (.iastore, 1) := by decide +kernel
theorem dX8_collects_173 : decode cX8_collects 173 = .ok (.iload_n 1, 1) := by decide +kernel
theorem dX8_collects_174 : decode cX8_collects 174 = .ok (.istore 4, 2) := by decide +kernel
theorem dX8_collects_176 : decode cX8_collects 176 = .ok (.iload 4, 2) := by decide +kernel
theorem dX8_collects_178 : decode cX8_collects 178 = .ok (.iload_n 2, 1) := by decide +kernel
theorem dX8_collects_179 : decode cX8_collects 179 = .ok (.if_icmp .ge 28, 3) := by decide +kernel
theorem dX8_collects_182 : decode cX8_collects 182 = .ok (.aload_n 0, 1) := by decide +kernel
theorem dX8_collects_183 : decode cX8_collects 183 = .ok (.getfield 7, 3) := by decide +kernel
theorem dX8_collects_186 : decode cX8_collects 186 = .ok (.sipush 218, 3) := by decide +kernel
theorem dX8_collects_189 : decode cX8_collects 189 = .ok (.iload 4, 2) := by decide +kernel
theorem dX8_collects_191 : decode cX8_collects 191 = .ok (.iadd, 1) := by decide +kernel
theorem dX8_collects_192 : decode cX8_collects 192 = .ok (.iload_n 1, 1) := by decide +kernel
theorem dX8_collects_193 : decode cX8_collects 193 = .ok (.isub, 1) := by decide +kernel
theorem dX8_collects_194 : decode cX8_collects 194 = .ok (.aload_n 0, 1) := by decide +kernel
theorem dX8_collects_195 : decode cX8_collects 195 = .ok (.iload 4, 2) := by decide +kernel
theorem dX8_collects_197 : decode cX8_collects 197 = .ok (.invokevirtual 36, 3) := by decide +kernel
theorem dX8_collects_200 : decode cX8_collects 200 = .ok (.iastore, 1) := by decide +kernel
theorem dX8_collects_201 : decode cX8_collects 201 = .ok (.iinc 4 1, 3) := by decide +kernel
theorem dX8_collects_204 : decode cX8_collects 204 = .ok (.goto (-28), 3) := by decide +kernel
theorem dX8_collects_207 : decode cX8_collects 207 = .ok (.aload_n 0, 1) := by decide +kernel
theorem dX8_collects_208 : decode cX8_collects 208 = .ok (.getfield 7, 3) := by decide +kernel
theorem dX8_collects_211 : decode cX8_collects 211 = .ok (.iconst 4, 1) := by decide +kernel
theorem dX8_collects_212 : decode cX8_collects 212 = .ok (.iconst 0, 1) := by decide +kernel
theorem dX8_collects_213 : decode cX8_collects 213 = .ok (.iastore, 1) := by decide +kernel
theorem dX8_collects_214 : decode cX8_collects 214 = .ok (.return_, 1) := by decide +kernel
theorem dX8_grows_0 : decode cX8_grows 0 = .ok (.iload_n 2, 1) := by decide +kernel
theorem dX8_grows_1 : decode cX8_grows 1 = .ok (.iload_n 1, 1) := by decide +kernel
theorem dX8_grows_2 : decode cX8_grows 2 = .ok (.isub, 1) := by decide +kernel
theorem dX8_grows_3 : decode cX8_grows 3 = .ok (.istore 4, 2) := by decide +kernel
theorem dX8_grows_5 : decode cX8_grows 5 = .ok (.aload_n 0, 1) := by decide +kernel
theorem dX8_grows_6 : decode cX8_grows 6 = .ok (.getfield 7, 3) := by decide +kernel
theorem dX8_grows_9 : decode cX8_grows 9 = .ok (.bipush 10, 2) := by decide +kernel
theorem dX8_grows_11 : decode cX8_grows 11 = .ok (.iaload, 1) := by decide +kernel
theorem dX8_grows_12 : decode cX8_grows 12 = .ok (.iconst 1, 1) := by decide +kernel
theorem dX8_grows_13 : decode cX8_grows 13 = .ok (.isub, 1) := by decide +kernel
theorem dX8_grows_14 : decode cX8_grows 14 = .ok (.istore 5, 2) := by decide +kernel
theorem dX8_grows_16 : decode cX8_grows 16 = .ok (.iload 5, 2) := by decide +kernel
theorem dX8_grows_18 : decode cX8_grows 18 = .ok (.ifCond .lt 38, 3) := by decide +kernel
theorem dX8_grows_21 : decode cX8_grows 21 = .ok (.iload_n 3, 1) := by decide +kernel
theorem dX8_grows_22 : decode cX8_grows 22 = .ok (.ifCond .eq 34, 3) := by decide +kernel
theorem dX8_grows_25 : decode cX8_grows 25 = .ok (.aload_n 0, 1) := by decide +kernel
theorem dX8_grows_26 : decode cX8_grows 26 = .ok (.getfield 7, 3) := by decide +kernel
theorem dX8_grows_29 : decode cX8_grows 29 = .ok (.sipush 218, 3) := by decide +kernel
theorem dX8_grows_32 : decode cX8_grows 32 = .ok (.iload 5, 2) := by decide +kernel
theorem dX8_grows_34 : decode cX8_grows 34 = .ok (.iadd, 1) := by decide +kernel
theorem dX8_grows_35 : decode cX8_grows 35 = .ok (.iload 4, 2) := by decide +kernel
theorem dX8_grows_37 : decode cX8_grows 37 = .ok (.iadd, 1) := by decide +kernel
theorem dX8_grows_38 : decode cX8_grows 38 = .ok (.aload_n 0, 1) := by decide +kernel
theorem dX8_grows_39 : decode cX8_grows 39 = .ok (.getfield 7, 3) := by decide +kernel
theorem dX8_grows_42 : decode cX8_grows 42 = .ok (.sipush 218, 3) := by decide +kernel
theorem dX8_grows_45 : decode cX8_grows 45 = .ok (.iload 5, 2) := by decide +kernel
theorem dX8_grows_47 : decode cX8_grows 47 = .ok (.iadd, 1) := by decide +kernel
theorem dX8_grows_48 : decode cX8_grows 48 = .ok (.iaload, 1) := by decide +kernel
theorem dX8_grows_49 : decode cX8_grows 49 = .ok (.iastore, 1) := by decide +kernel
theorem dX8_grows_50 : decode cX8_grows 50 = .ok (.iinc 5 (-1), 3) := by decide +kernel
theorem dX8_grows_53 : decode cX8_grows 53 = .ok (.goto (-37), 3) := by decide +kernel
theorem dX8_grows_56 : decode cX8_grows 56 = .ok (.iload_n 1, 1) := by decide +kernel
theorem dX8_grows_57 : decode cX8_grows 57 = .ok (.istore 5, 2) := by decide +kernel
theorem dX8_grows_59 : decode cX8_grows 59 = .ok (.iload 5, 2) := by decide +kernel
theorem dX8_grows_61 : decode cX8_grows 61 = .ok (.iload_n 2, 1) := by decide +kernel
theorem dX8_grows_62 : decode cX8_grows 62 = .ok (.if_icmp .ge 44, 3) := by decide +kernel
theorem dX8_grows_65 : decode cX8_grows 65 = .ok (.aload_n 0, 1) := by decide +kernel
theorem dX8_grows_66 : decode cX8_grows 66 = .ok (.getfield 7, 3) := by decide +kernel
theorem dX8_grows_69 : decode cX8_grows 69 = .ok (.sipush 218, 3) := by decide +kernel
theorem dX8_grows_72 : decode cX8_grows 72 = .ok (.iload_n 3, 1) := by decide +kernel
theorem dX8_grows_73 : decode cX8_grows 73 = .ok (.ifCond .eq 7, 3) := by decide +kernel
theorem dX8_grows_76 : decode cX8_grows 76 = .ok (.iconst 0, 1) := by decide +kernel
theorem dX8_grows_77 : decode cX8_grows 77 = .ok (.goto 10, 3) := by decide +kernel
theorem dX8_grows_80 : decode cX8_grows 80 = .ok (.aload_n 0, 1) := by decide +kernel
theorem dX8_grows_81 : decode cX8_grows 81 = .ok (.getfield 7, 3) := by decide +kernel
theorem dX8_grows_84 : decode cX8_grows 84 = .ok (.bipush 10, 2) := by decide +kernel
theorem dX8_grows_86 : decode cX8_grows 86 = .ok (.iaload, 1) := by decide +kernel
theorem dX8_grows_87 : decode cX8_grows 87 = .ok (.iadd, 1) := by decide +kernel
theorem dX8_grows_88 : decode cX8_grows 88 = .ok (.iload 5, 2) := by decide +kernel
theorem dX8_grows_90 : decode cX8_grows 90 = .ok (.iadd, 1) := by decide +kernel
theorem dX8_grows_91 : decode cX8_grows 91 = .ok (.iload_n 1, 1) := by decide +kernel
theorem dX8_grows_92 : decode cX8_grows 92 = .ok (.isub, 1) := by decide +kernel
theorem dX8_grows_93 : decode cX8_grows 93 = .ok (.aload_n 0, 1) := by decide +kernel
theorem dX8_grows_94 : decode cX8_grows 94 = .ok (.iload 5, 2) := by decide +kernel
theorem dX8_grows_96 : decode cX8_grows 96 = .ok (.invokevirtual 36, 3) := by decide +kernel
theorem dX8_grows_99 : decode cX8_grows 99 = .ok (.iastore, 1) := by decide +kernel
theorem dX8_grows_100 : decode cX8_grows 100 = .ok (.iinc 5 1, 3) := by decide +kernel
theorem dX8_grows_103 : decode cX8_grows 103 = .ok (.goto (-44), 3) := by decide +kernel
theorem dX8_grows_106 : decode cX8_grows 106 = .ok (.aload_n 0, 1) := by decide +kernel
theorem dX8_grows_107 : decode cX8_grows 107 = .ok (.getfield 7, 3) := by decide +kernel
theorem dX8_grows_110 : decode cX8_grows 110 = .ok (.bipush 10, 2) := by decide +kernel
theorem dX8_grows_112 : decode cX8_grows 112 = .ok (.dup2, 1) := by decide +kernel
theorem dX8_grows_113 : decode cX8_grows 113 = .ok (.iaload, 1) := by decide +kernel
theorem dX8_grows_114 : decode cX8_grows 114 = .ok (.iload 4, 2) := by decide +kernel
theorem dX8_grows_116 : decode cX8_grows 116 = .ok (.iadd, 1) := by decide +kernel
theorem dX8_grows_117 : decode cX8_grows 117 = .ok (.iastore, 1) := by decide +kernel
theorem dX8_grows_118 : decode cX8_grows 118 = .ok (.aload_n 0, 1) := by decide +kernel
theorem dX8_grows_119 : decode cX8_grows 119 = .ok (.getfield 7, 3) := by decide +kernel
theorem dX8_grows_122 : decode cX8_grows 122 = .ok (.iconst 4, 1) := by decide +kernel
theorem dX8_grows_123 : decode cX8_grows 123 = .ok (.iconst 0, 1) := by decide +kernel
theorem dX8_grows_124 : decode cX8_grows 124 = .ok (.iastore, 1) := by decide +kernel
theorem dX8_grows_125 : decode cX8_grows 125 = .ok (.return_, 1) := by decide +kernel
theorem dX8_kills_0 : decode cX8_kills 0 = .ok (.iload_n 1, 1) := by decide +kernel
theorem dX8_kills_1 : decode cX8_kills 1 = .ok (.iload_n 2, 1) := by decide +kernel
theorem dX8_kills_2 : decode cX8_kills 2 = .ok (.if_icmp .ne 5, 3) := by decide +kernel
theorem dX8_kills_5 : decode cX8_kills 5 = .ok (.iconst (-1), 1) := by decide +kernel
theorem dX8_kills_6 : decode cX8_kills 6 = .ok (.ireturn, 1) := by decide +kernel
theorem dX8_kills_7 : decode cX8_kills 7 = .ok (.aload_n 0, 1) := by decide +kernel
theorem dX8_kills_8 : decode cX8_kills 8 = .ok (.getfield 67, 3) := by decide +kernel
theorem dX8_kills_11 : decode cX8_kills 11 = .ok (.iconst 1, 1) := by decide +kernel
theorem dX8_kills_12 : decode cX8_kills 12 = .ok (.if_icmp .ne 13, 3) := by decide +kernel
theorem dX8_kills_15 : decode cX8_kills 15 = .ok (.aload_n 0, 1) := by decide +kernel
theorem dX8_kills_16 : decode cX8_kills 16 = .ok (.iload_n 1, 1) := by decide +kernel
theorem dX8_kills_17 : decode cX8_kills 17 = .ok (.iload_n 2, 1) := by decide +kernel
theorem dX8_kills_18 : decode cX8_kills 18 = .ok (.iload_n 3, 1) := by decide +kernel
theorem dX8_kills_19 : decode cX8_kills 19 = .ok (.invokevirtual 70, 3) := by decide +kernel
theorem dX8_kills_22 : decode cX8_kills 22 = .ok (.goto 9, 3) := by decide +kernel
theorem dX8_kills_25 : decode cX8_kills 25 = .ok (.aload_n 0, 1) := by decide +kernel
theorem dX8_kills_26 : decode cX8_kills 26 = .ok (.iload_n 1, 1) := by decide +kernel
theorem dX8_kills_27 : decode cX8_kills 27 = .ok (.iload_n 2, 1) := by decide +kernel
theorem dX8_kills_28 : decode cX8_kills 28 = .ok (.invokevirtual 74, 3) := by decide +kernel
theorem dX8_kills_31 : decode cX8_kills 31 = .ok (.aload_n 0, 1) := by decide +kernel
theorem dX8_kills_32 : decode cX8_kills 32 = .ok (.iload_n 1, 1) := by decide +kernel
theorem dX8_kills_33 : decode cX8_kills 33 = .ok (.iload_n 2, 1) := by decide +kernel
theorem dX8_kills_34 : decode cX8_kills 34 = .ok (.invokevirtual 55, 3) := by decide +kernel
theorem dX8_kills_37 : decode cX8_kills 37 = .ok (.aload_n 0, 1) := by decide +kernel
theorem dX8_kills_38 : decode cX8_kills 38 = .ok (.getfield 7, 3) := by decide +kernel
theorem dX8_kills_41 : decode cX8_kills 41 = .ok (.bipush 6, 2) := by decide +kernel
theorem dX8_kills_43 : decode cX8_kills 43 = .ok (.dup2, 1) := by decide +kernel
theorem dX8_kills_44 : decode cX8_kills 44 = .ok (.iaload, 1) := by decide +kernel
theorem dX8_kills_45 : decode cX8_kills 45 = .ok (.iload_n 2, 1) := by decide +kernel
theorem dX8_kills_46 : decode cX8_kills 46 = .ok (.iload_n 1, 1) := by decide +kernel
theorem dX8_kills_47 : decode cX8_kills 47 = .ok (.isub, 1) := by decide +kernel
theorem dX8_kills_48 : decode cX8_kills 48 = .ok (.iadd, 1) := by decide +kernel
theorem dX8_kills_49 : decode cX8_kills 49 = .ok (.iastore, 1) := by decide +kernel
theorem dX8_kills_50 : decode cX8_kills 50 = .ok (.iload_n 2, 1) := by decide +kernel
theorem dX8_kills_51 : decode cX8_kills 51 = .ok (.iload_n 1, 1) := by decide +kernel
theorem dX8_kills_52 : decode cX8_kills 52 = .ok (.isub, 1) := by decide +kernel
theorem dX8_kills_53 : decode cX8_kills 53 = .ok (.ireturn, 1) := by decide +kernel
theorem dX8_killsWord_0 : decode cX8_killsWord 0 = .ok (.aload_n 0, 1) := by decide +kernel
theorem dX8_killsWord_1 : decode cX8_killsWord 1 = .ok (.aload_n 0, 1) := by decide +kernel
theorem dX8_killsWord_2 : decode cX8_killsWord 2 = .ok (.getfield 7, 3) := by decide +kernel
theorem dX8_killsWord_5 : decode cX8_killsWord 5 = .ok (.iconst 1, 1) := by decide +kernel
theorem dX8_killsWord_6 : decode cX8_killsWord 6 = .ok (.iaload, 1) := by decide +kernel
theorem dX8_killsWord_7 : decode cX8_killsWord 7 = .ok (.aload_n 0, 1) := by decide +kernel
theorem dX8_killsWord_8 : decode cX8_killsWord 8 = .ok (.aload_n 0, 1) := by decide +kernel
theorem dX8_killsWord_9 : decode cX8_killsWord 9 = .ok (.getfield 7, 3) := by decide +kernel
theorem dX8_killsWord_12 : decode cX8_killsWord 12 = .ok (.iconst 1, 1) := by decide +kernel
theorem dX8_killsWord_13 : decode cX8_killsWord 13 = .ok (.iaload, 1) := by decide +kernel
theorem dX8_killsWord_14 : decode cX8_killsWord 14 = .ok (.invokevirtual 58, 3) := by decide +kernel
theorem dX8_killsWord_17 : decode cX8_killsWord 17 = .ok (.iconst 0, 1) := by decide +kernel
theorem dX8_killsWord_18 : decode cX8_killsWord 18 = .ok (.invokevirtual 77, 3) := by decide +kernel
theorem dX8_killsWord_21 : decode cX8_killsWord 21 = .ok (.ireturn, 1) := by decide +kernel
theorem dX8_killsBack_0 : decode cX8_killsBack 0 = .ok (.aload_n 0, 1) := by decide +kernel
theorem dX8_killsBack_1 : decode cX8_killsBack 1 = .ok (.aload_n 0, 1) := by decide +kernel
theorem dX8_killsBack_2 : decode cX8_killsBack 2 = .ok (.aload_n 0, 1) := by decide +kernel
theorem dX8_killsBack_3 : decode cX8_killsBack 3 = .ok (.getfield 7, 3) := by decide +kernel
theorem dX8_killsBack_6 : decode cX8_killsBack 6 = .ok (.iconst 1, 1) := by decide +kernel
theorem dX8_killsBack_7 : decode cX8_killsBack 7 = .ok (.iaload, 1) := by decide +kernel
theorem dX8_killsBack_8 : decode cX8_killsBack 8 = .ok (.invokevirtual 81, 3) := by decide +kernel
theorem dX8_killsBack_11 : decode cX8_killsBack 11 = .ok (.aload_n 0, 1) := by decide +kernel
theorem dX8_killsBack_12 : decode cX8_killsBack 12 = .ok (.getfield 7, 3) := by decide +kernel
theorem dX8_killsBack_15 : decode cX8_killsBack 15 = .ok (.iconst 1, 1) := by decide +kernel
theorem dX8_killsBack_16 : decode cX8_killsBack 16 = .ok (.iaload, 1) := by decide +kernel
theorem dX8_killsBack_17 : decode cX8_killsBack 17 = .ok (.iconst 1, 1) := by decide +kernel
theorem dX8_killsBack_18 : decode cX8_killsBack 18 = .ok (.invokevirtual 77, 3) := by decide +kernel
theorem dX8_killsBack_21 : decode cX8_killsBack 21 = .ok (.ireturn, 1) := by decide +kernel
theorem dX8_killsLine_0 : decode cX8_killsLine 0 = .ok (.aload_n 0, 1) := by decide +kernel
theorem dX8_killsLine_1 : decode cX8_killsLine 1 = .ok (.aload_n 0, 1) := by decide +kernel
theorem dX8_killsLine_2 : decode cX8_killsLine 2 = .ok (.getfield 7, 3) := by decide +kernel
theorem dX8_killsLine_5 : decode cX8_killsLine 5 = .ok (.iconst 1, 1) := by decide +kernel
theorem dX8_killsLine_6 : decode cX8_killsLine 6 = .ok (.iaload, 1) := by decide +kernel
theorem dX8_killsLine_7 : decode cX8_killsLine 7 = .ok (.invokevirtual 64, 3) := by decide +kernel
theorem dX8_killsLine_10 : decode cX8_killsLine 10 = .ok (.istore_n 1, 1) := by decide +kernel
theorem dX8_killsLine_11 : decode cX8_killsLine 11 = .ok (.aload_n 0, 1) := by decide +kernel
theorem dX8_killsLine_12 : decode cX8_killsLine 12 = .ok (.aload_n 0, 1) := by decide +kernel
theorem dX8_killsLine_13 : decode cX8_killsLine 13 = .ok (.getfield 7, 3) := by decide +kernel
theorem dX8_killsLine_16 : decode cX8_killsLine 16 = .ok (.iconst 1, 1) := by decide +kernel
theorem dX8_killsLine_17 : decode cX8_killsLine 17 = .ok (.iaload, 1) := by decide +kernel
theorem dX8_killsLine_18 : decode cX8_killsLine 18 = .ok (.iload_n 1, 1) := by decide +kernel
theorem dX8_killsLine_19 : decode cX8_killsLine 19 = .ok (.aload_n 0, 1) := by decide +kernel
theorem dX8_killsLine_20 : decode cX8_killsLine 20 = .ok (.getfield 7, 3) := by decide +kernel
theorem dX8_killsLine_23 : decode cX8_killsLine 23 = .ok (.iconst 1, 1) := by decide +kernel
theorem dX8_killsLine_24 : decode cX8_killsLine 24 = .ok (.iaload, 1) := by decide +kernel
theorem dX8_killsLine_25 : decode cX8_killsLine 25 = .ok (.if_icmp .gt 13, 3) := by decide +kernel
theorem dX8_killsLine_28 : decode cX8_killsLine 28 = .ok (.iload_n 1, 1) := by decide +kernel
theorem dX8_killsLine_29 : decode cX8_killsLine 29 = .ok (.aload_n 0, 1) := by decide +kernel
theorem dX8_killsLine_30 : decode cX8_killsLine 30 = .ok (.getfield 7, 3) := by decide +kernel
theorem dX8_killsLine_33 : decode cX8_killsLine 33 = .ok (.iconst 0, 1) := by decide +kernel
theorem dX8_killsLine_34 : decode cX8_killsLine 34 = .ok (.iaload, 1) := by decide +kernel
theorem dX8_killsLine_35 : decode cX8_killsLine 35 = .ok (.if_icmp .ne 7, 3) := by decide +kernel
theorem dX8_killsLine_38 : decode cX8_killsLine 38 = .ok (.iload_n 1, 1) := by decide +kernel
theorem dX8_killsLine_39 : decode cX8_killsLine 39 = .ok (.goto 6, 3) := by decide +kernel
theorem dX8_killsLine_42 : decode cX8_killsLine 42 = .ok (.iload_n 1, 1) := by decide +kernel
theorem dX8_killsLine_43 : decode cX8_killsLine 43 = .ok (.iconst 1, 1) := by decide +kernel
theorem dX8_killsLine_44 : decode cX8_killsLine 44 = .ok (.iadd, 1) := by decide +kernel
theorem dX8_killsLine_45 : decode cX8_killsLine 45 = .ok (.iconst 0, 1) := by decide +kernel
theorem dX8_killsLine_46 : decode cX8_killsLine 46 = .ok (.invokevirtual 77, 3) := by decide +kernel
theorem dX8_killsLine_49 : decode cX8_killsLine 49 = .ok (.ireturn, 1) := by decide +kernel
theorem dX8_killsBetween_0 : decode cX8_killsBetween 0 = .ok (.aload_n 0, 1) := by decide +kernel
theorem dX8_killsBetween_1 : decode cX8_killsBetween 1 = .ok (.getfield 7, 3) := by decide +kernel
theorem dX8_killsBetween_4 : decode cX8_killsBetween 4 = .ok (.iconst 2, 1) := by decide +kernel
theorem dX8_killsBetween_5 : decode cX8_killsBetween 5 = .ok (.iaload, 1) := by decide +kernel
theorem dX8_killsBetween_6 : decode cX8_killsBetween 6 = .ok (.aload_n 0, 1) := by decide +kernel
theorem dX8_killsBetween_7 : decode cX8_killsBetween 7 = .ok (.getfield 7, 3) := by decide +kernel
theorem dX8_killsBetween_10 : decode cX8_killsBetween 10 = .ok (.iconst 1, 1) := by decide +kernel
theorem dX8_killsBetween_11 : decode cX8_killsBetween 11 = .ok (.iaload, 1) := by decide +kernel
theorem dX8_killsBetween_12 : decode cX8_killsBetween 12 = .ok (.if_icmp .le 7, 3) := by decide +kernel
theorem dX8_killsBetween_15 : decode cX8_killsBetween 15 = .ok (.iconst 1, 1) := by decide +kernel
theorem dX8_killsBetween_16 : decode cX8_killsBetween 16 = .ok (.goto 4, 3) := by decide +kernel
theorem dX8_killsBetween_19 : decode cX8_killsBetween 19 = .ok (.iconst 0, 1) := by decide +kernel
theorem dX8_killsBetween_20 : decode cX8_killsBetween 20 = .ok (.istore_n 1, 1) := by decide +kernel
theorem dX8_killsBetween_21 : decode cX8_killsBetween 21 = .ok (.aload_n 0, 1) := by decide +kernel
theorem dX8_killsBetween_22 : decode cX8_killsBetween 22 = .ok (.getfield 7, 3) := by decide +kernel
theorem dX8_killsBetween_25 : decode cX8_killsBetween 25 = .ok (.iconst 2, 1) := by decide +kernel
theorem dX8_killsBetween_26 : decode cX8_killsBetween 26 = .ok (.iaload, 1) := by decide +kernel
theorem dX8_killsBetween_27 : decode cX8_killsBetween 27 = .ok (.ifCond .ge 7, 3) := by decide +kernel
theorem dX8_killsBetween_30 : decode cX8_killsBetween 30 = .ok (.iconst (-1), 1) := by decide +kernel
theorem dX8_killsBetween_31 : decode cX8_killsBetween 31 = .ok (.goto 54, 3) := by decide +kernel
theorem dX8_killsBetween_34 : decode cX8_killsBetween 34 = .ok (.aload_n 0, 1) := by decide +kernel
theorem dX8_killsBetween_35 : decode cX8_killsBetween 35 = .ok (.iload_n 1, 1) := by decide +kernel
theorem dX8_killsBetween_36 : decode cX8_killsBetween 36 = .ok (.ifCond .eq 12, 3) := by decide +kernel
theorem dX8_killsBetween_39 : decode cX8_killsBetween 39 = .ok (.aload_n 0, 1) := by decide +kernel
theorem dX8_killsBetween_40 : decode cX8_killsBetween 40 = .ok (.getfield 7, 3) := by decide +kernel
theorem dX8_killsBetween_43 : decode cX8_killsBetween 43 = .ok (.iconst 1, 1) := by decide +kernel
theorem dX8_killsBetween_44 : decode cX8_killsBetween 44 = .ok (.iaload, 1) := by decide +kernel
theorem dX8_killsBetween_45 : decode cX8_killsBetween 45 = .ok (.goto 9, 3) := by decide +kernel
theorem dX8_killsBetween_48 : decode cX8_killsBetween 48 = .ok (.aload_n 0, 1) := by decide +kernel
theorem dX8_killsBetween_49 : decode cX8_killsBetween 49 = .ok (.getfield 7, 3) := by decide +kernel
theorem dX8_killsBetween_52 : decode cX8_killsBetween 52 = .ok (.iconst 2, 1) := by decide +kernel
theorem dX8_killsBetween_53 : decode cX8_killsBetween 53 = .ok (.iaload, 1) := by decide +kernel
theorem dX8_killsBetween_54 : decode cX8_killsBetween 54 = .ok (.iload_n 1, 1) := by decide +kernel
theorem dX8_killsBetween_55 : decode cX8_killsBetween 55 = .ok (.ifCond .eq 12, 3) := by decide +kernel
theorem dX8_killsBetween_58 : decode cX8_killsBetween 58 = .ok (.aload_n 0, 1) := by decide +kernel
theorem dX8_killsBetween_59 : decode cX8_killsBetween 59 = .ok (.getfield 7, 3) := by decide +kernel
theorem dX8_killsBetween_62 : decode cX8_killsBetween 62 = .ok (.iconst 2, 1) := by decide +kernel
theorem dX8_killsBetween_63 : decode cX8_killsBetween 63 = .ok (.iaload, 1) := by decide +kernel
theorem dX8_killsBetween_64 : decode cX8_killsBetween 64 = .ok (.goto 9, 3) := by decide +kernel
theorem dX8_killsBetween_67 : decode cX8_killsBetween 67 = .ok (.aload_n 0, 1) := by decide +kernel
theorem dX8_killsBetween_68 : decode cX8_killsBetween 68 = .ok (.getfield 7, 3) := by decide +kernel
theorem dX8_killsBetween_71 : decode cX8_killsBetween 71 = .ok (.iconst 1, 1) := by decide +kernel
theorem dX8_killsBetween_72 : decode cX8_killsBetween 72 = .ok (.iaload, 1) := by decide +kernel
theorem dX8_killsBetween_73 : decode cX8_killsBetween 73 = .ok (.iload_n 1, 1) := by decide +kernel
theorem dX8_killsBetween_74 : decode cX8_killsBetween 74 = .ok (.ifCond .ne 7, 3) := by decide +kernel
theorem dX8_killsBetween_77 : decode cX8_killsBetween 77 = .ok (.iconst 1, 1) := by decide +kernel
theorem dX8_killsBetween_78 : decode cX8_killsBetween 78 = .ok (.goto 4, 3) := by decide +kernel
theorem dX8_killsBetween_81 : decode cX8_killsBetween 81 = .ok (.iconst 0, 1) := by decide +kernel
theorem dX8_killsBetween_82 : decode cX8_killsBetween 82 = .ok (.invokevirtual 77, 3) := by decide +kernel
theorem dX8_killsBetween_85 : decode cX8_killsBetween 85 = .ok (.ireturn, 1) := by decide +kernel
theorem dX8_apart_0 : decode cX8_apart 0 = .ok (.aload_n 0, 1) := by decide +kernel
theorem dX8_apart_1 : decode cX8_apart 1 = .ok (.getfield 7, 3) := by decide +kernel
theorem dX8_apart_4 : decode cX8_apart 4 = .ok (.iconst 2, 1) := by decide +kernel
theorem dX8_apart_5 : decode cX8_apart 5 = .ok (.iaload, 1) := by decide +kernel
theorem dX8_apart_6 : decode cX8_apart 6 = .ok (.aload_n 0, 1) := by decide +kernel
theorem dX8_apart_7 : decode cX8_apart 7 = .ok (.getfield 7, 3) := by decide +kernel
theorem dX8_apart_10 : decode cX8_apart 10 = .ok (.iconst 1, 1) := by decide +kernel
theorem dX8_apart_11 : decode cX8_apart 11 = .ok (.iaload, 1) := by decide +kernel
theorem dX8_apart_12 : decode cX8_apart 12 = .ok (.if_icmp .le 19, 3) := by decide +kernel
theorem dX8_apart_15 : decode cX8_apart 15 = .ok (.aload_n 0, 1) := by decide +kernel
theorem dX8_apart_16 : decode cX8_apart 16 = .ok (.getfield 7, 3) := by decide +kernel
theorem dX8_apart_19 : decode cX8_apart 19 = .ok (.iconst 2, 1) := by decide +kernel
theorem dX8_apart_20 : decode cX8_apart 20 = .ok (.iaload, 1) := by decide +kernel
theorem dX8_apart_21 : decode cX8_apart 21 = .ok (.aload_n 0, 1) := by decide +kernel
theorem dX8_apart_22 : decode cX8_apart 22 = .ok (.getfield 7, 3) := by decide +kernel
theorem dX8_apart_25 : decode cX8_apart 25 = .ok (.iconst 1, 1) := by decide +kernel
theorem dX8_apart_26 : decode cX8_apart 26 = .ok (.iaload, 1) := by decide +kernel
theorem dX8_apart_27 : decode cX8_apart 27 = .ok (.isub, 1) := by decide +kernel
theorem dX8_apart_28 : decode cX8_apart 28 = .ok (.goto 16, 3) := by decide +kernel
theorem dX8_apart_31 : decode cX8_apart 31 = .ok (.aload_n 0, 1) := by decide +kernel
theorem dX8_apart_32 : decode cX8_apart 32 = .ok (.getfield 7, 3) := by decide +kernel
theorem dX8_apart_35 : decode cX8_apart 35 = .ok (.iconst 1, 1) := by decide +kernel
theorem dX8_apart_36 : decode cX8_apart 36 = .ok (.iaload, 1) := by decide +kernel
theorem dX8_apart_37 : decode cX8_apart 37 = .ok (.aload_n 0, 1) := by decide +kernel
theorem dX8_apart_38 : decode cX8_apart 38 = .ok (.getfield 7, 3) := by decide +kernel
theorem dX8_apart_41 : decode cX8_apart 41 = .ok (.iconst 2, 1) := by decide +kernel
theorem dX8_apart_42 : decode cX8_apart 42 = .ok (.iaload, 1) := by decide +kernel
theorem dX8_apart_43 : decode cX8_apart 43 = .ok (.isub, 1) := by decide +kernel
theorem dX8_apart_44 : decode cX8_apart 44 = .ok (.ireturn, 1) := by decide +kernel
theorem dX8_copiesBetween_0 : decode cX8_copiesBetween 0 = .ok (.aload_n 0, 1) := by decide +kernel
theorem dX8_copiesBetween_1 : decode cX8_copiesBetween 1 = .ok (.getfield 7, 3) := by decide +kernel
theorem dX8_copiesBetween_4 : decode cX8_copiesBetween 4 = .ok (.iconst 2, 1) := by decide +kernel
theorem dX8_copiesBetween_5 : decode cX8_copiesBetween 5 = .ok (.iaload, 1) := by decide +kernel
theorem dX8_copiesBetween_6 : decode cX8_copiesBetween 6 = .ok (.ifCond .lt 18, 3) := by decide +kernel
theorem dX8_copiesBetween_9 : decode cX8_copiesBetween 9 = .ok (.aload_n 0, 1) := by decide +kernel
theorem dX8_copiesBetween_10 : decode cX8_copiesBetween 10 = .ok (.getfield 7, 3) := by decide +kernel
theorem dX8_copiesBetween_13 : decode cX8_copiesBetween 13 = .ok (.iconst 2, 1) := by decide +kernel
theorem dX8_copiesBetween_14 : decode cX8_copiesBetween 14 = .ok (.iaload, 1) := by decide +kernel
theorem dX8_copiesBetween_15 : decode cX8_copiesBetween 15 = .ok (.aload_n 0, 1) := by decide +kernel
theorem dX8_copiesBetween_16 : decode cX8_copiesBetween 16 = .ok (.getfield 7, 3) := by decide +kernel
theorem dX8_copiesBetween_19 : decode cX8_copiesBetween 19 = .ok (.iconst 1, 1) := by decide +kernel
theorem dX8_copiesBetween_20 : decode cX8_copiesBetween 20 = .ok (.iaload, 1) := by decide +kernel
theorem dX8_copiesBetween_21 : decode cX8_copiesBetween 21 = .ok (.if_icmp .ne 5, 3) := by decide +kernel
theorem dX8_copiesBetween_24 : decode cX8_copiesBetween 24 = .ok (.iconst (-1), 1) := by decide +kernel
theorem dX8_copiesBetween_25 : decode cX8_copiesBetween 25 = .ok (.ireturn, 1) := by decide +kernel
theorem dX8_copiesBetween_26 : decode cX8_copiesBetween 26 = .ok (.aload_n 0, 1) := by decide +kernel
theorem dX8_copiesBetween_27 : decode cX8_copiesBetween 27 = .ok (.getfield 7, 3) := by decide +kernel
theorem dX8_copiesBetween_30 : decode cX8_copiesBetween 30 = .ok (.iconst 2, 1) := by decide +kernel
theorem dX8_copiesBetween_31 : decode cX8_copiesBetween 31 = .ok (.iaload, 1) := by decide +kernel
theorem dX8_copiesBetween_32 : decode cX8_copiesBetween 32 = .ok (.aload_n 0, 1) := by decide +kernel
theorem dX8_copiesBetween_33 : decode cX8_copiesBetween 33 = .ok (.getfield 7, 3) := by decide +kernel
theorem dX8_copiesBetween_36 : decode cX8_copiesBetween 36 = .ok (.iconst 1, 1) := by decide +kernel
theorem dX8_copiesBetween_37 : decode cX8_copiesBetween 37 = .ok (.iaload, 1) := by decide +kernel
theorem dX8_copiesBetween_38 : decode cX8_copiesBetween 38 = .ok (.if_icmp .le 7, 3) := by decide +kernel
theorem dX8_copiesBetween_41 : decode cX8_copiesBetween 41 = .ok (.iconst 1, 1) := by decide +kernel
theorem dX8_copiesBetween_42 : decode cX8_copiesBetween 42 = .ok (.goto 4, 3) := by decide +kernel
theorem dX8_copiesBetween_45 : decode cX8_copiesBetween 45 = .ok (.iconst 0, 1) := by decide +kernel
theorem dX8_copiesBetween_46 : decode cX8_copiesBetween 46 = .ok (.istore_n 1, 1) := by decide +kernel
theorem dX8_copiesBetween_47 : decode cX8_copiesBetween 47 = .ok (.aload_n 0, 1) := by decide +kernel
theorem dX8_copiesBetween_48 : decode cX8_copiesBetween 48 = .ok (.iload_n 1, 1) := by decide +kernel
theorem dX8_copiesBetween_49 : decode cX8_copiesBetween 49 = .ok (.ifCond .eq 12, 3) := by decide +kernel
theorem dX8_copiesBetween_52 : decode cX8_copiesBetween 52 = .ok (.aload_n 0, 1) := by decide +kernel
theorem dX8_copiesBetween_53 : decode cX8_copiesBetween 53 = .ok (.getfield 7, 3) := by decide +kernel
theorem dX8_copiesBetween_56 : decode cX8_copiesBetween 56 = .ok (.iconst 1, 1) := by decide +kernel
theorem dX8_copiesBetween_57 : decode cX8_copiesBetween 57 = .ok (.iaload, 1) := by decide +kernel
theorem dX8_copiesBetween_58 : decode cX8_copiesBetween 58 = .ok (.goto 9, 3) := by decide +kernel
theorem dX8_copiesBetween_61 : decode cX8_copiesBetween 61 = .ok (.aload_n 0, 1) := by decide +kernel
theorem dX8_copiesBetween_62 : decode cX8_copiesBetween 62 = .ok (.getfield 7, 3) := by decide +kernel
theorem dX8_copiesBetween_65 : decode cX8_copiesBetween 65 = .ok (.iconst 2, 1) := by decide +kernel
theorem dX8_copiesBetween_66 : decode cX8_copiesBetween 66 = .ok (.iaload, 1) := by decide +kernel
theorem dX8_copiesBetween_67 : decode cX8_copiesBetween 67 = .ok (.iload_n 1, 1) := by decide +kernel
theorem dX8_copiesBetween_68 : decode cX8_copiesBetween 68 = .ok (.ifCond .eq 12, 3) := by decide +kernel
theorem dX8_copiesBetween_71 : decode cX8_copiesBetween 71 = .ok (.aload_n 0, 1) := by decide +kernel
theorem dX8_copiesBetween_72 : decode cX8_copiesBetween 72 = .ok (.getfield 7, 3) := by decide +kernel
theorem dX8_copiesBetween_75 : decode cX8_copiesBetween 75 = .ok (.iconst 2, 1) := by decide +kernel
theorem dX8_copiesBetween_76 : decode cX8_copiesBetween 76 = .ok (.iaload, 1) := by decide +kernel
theorem dX8_copiesBetween_77 : decode cX8_copiesBetween 77 = .ok (.goto 9, 3) := by decide +kernel
theorem dX8_copiesBetween_80 : decode cX8_copiesBetween 80 = .ok (.aload_n 0, 1) := by decide +kernel
theorem dX8_copiesBetween_81 : decode cX8_copiesBetween 81 = .ok (.getfield 7, 3) := by decide +kernel
theorem dX8_copiesBetween_84 : decode cX8_copiesBetween 84 = .ok (.iconst 1, 1) := by decide +kernel
theorem dX8_copiesBetween_85 : decode cX8_copiesBetween 85 = .ok (.iaload, 1) := by decide +kernel
theorem dX8_copiesBetween_86 : decode cX8_copiesBetween 86 = .ok (.invokevirtual 74, 3) := by decide +kernel
theorem dX8_copiesBetween_89 : decode cX8_copiesBetween 89 = .ok (.aload_n 0, 1) := by decide +kernel
theorem dX8_copiesBetween_90 : decode cX8_copiesBetween 90 = .ok (.invokevirtual 84, 3) := by decide +kernel
theorem dX8_copiesBetween_93 : decode cX8_copiesBetween 93 = .ok (.ireturn, 1) := by decide +kernel
theorem dX8_yanks_0 : decode cX8_yanks 0 = .ok (.aload_n 0, 1) := by decide +kernel
theorem dX8_yanks_1 : decode cX8_yanks 1 = .ok (.getfield 7, 3) := by decide +kernel
theorem dX8_yanks_4 : decode cX8_yanks 4 = .ok (.bipush 10, 2) := by decide +kernel
theorem dX8_yanks_6 : decode cX8_yanks 6 = .ok (.aload_n 0, 1) := by decide +kernel
theorem dX8_yanks_7 : decode cX8_yanks 7 = .ok (.getfield 7, 3) := by decide +kernel
theorem dX8_yanks_10 : decode cX8_yanks 10 = .ok (.iconst 4, 1) := by decide +kernel
theorem dX8_yanks_11 : decode cX8_yanks 11 = .ok (.iaload, 1) := by decide +kernel
theorem dX8_yanks_12 : decode cX8_yanks 12 = .ok (.iadd, 1) := by decide +kernel
theorem dX8_yanks_13 : decode cX8_yanks 13 = .ok (.iaload, 1) := by decide +kernel
theorem dX8_yanks_14 : decode cX8_yanks 14 = .ok (.istore_n 1, 1) := by decide +kernel
theorem dX8_yanks_15 : decode cX8_yanks 15 = .ok (.aload_n 0, 1) := by decide +kernel
theorem dX8_yanks_16 : decode cX8_yanks 16 = .ok (.getfield 7, 3) := by decide +kernel
theorem dX8_yanks_19 : decode cX8_yanks 19 = .ok (.iconst 3, 1) := by decide +kernel
theorem dX8_yanks_20 : decode cX8_yanks 20 = .ok (.iaload, 1) := by decide +kernel
theorem dX8_yanks_21 : decode cX8_yanks 21 = .ok (.ifCond .eq 17, 3) := by decide +kernel
theorem dX8_yanks_24 : decode cX8_yanks 24 = .ok (.aload_n 0, 1) := by decide +kernel
theorem dX8_yanks_25 : decode cX8_yanks 25 = .ok (.getfield 7, 3) := by decide +kernel
theorem dX8_yanks_28 : decode cX8_yanks 28 = .ok (.iconst 0, 1) := by decide +kernel
theorem dX8_yanks_29 : decode cX8_yanks 29 = .ok (.iaload, 1) := by decide +kernel
theorem dX8_yanks_30 : decode cX8_yanks 30 = .ok (.iload_n 1, 1) := by decide +kernel
theorem dX8_yanks_31 : decode cX8_yanks 31 = .ok (.iadd, 1) := by decide +kernel
theorem dX8_yanks_32 : decode cX8_yanks 32 = .ok (.sipush 200, 3) := by decide +kernel
theorem dX8_yanks_35 : decode cX8_yanks 35 = .ok (.if_icmp .le 5, 3) := by decide +kernel
theorem dX8_yanks_38 : decode cX8_yanks 38 = .ok (.iconst (-1), 1) := by decide +kernel
theorem dX8_yanks_39 : decode cX8_yanks 39 = .ok (.ireturn, 1) := by decide +kernel
theorem dX8_yanks_40 : decode cX8_yanks 40 = .ok (.aload_n 0, 1) := by decide +kernel
theorem dX8_yanks_41 : decode cX8_yanks 41 = .ok (.iload_n 1, 1) := by decide +kernel
theorem dX8_yanks_42 : decode cX8_yanks 42 = .ok (.invokevirtual 51, 3) := by decide +kernel
theorem dX8_yanks_45 : decode cX8_yanks 45 = .ok (.iconst 0, 1) := by decide +kernel
theorem dX8_yanks_46 : decode cX8_yanks 46 = .ok (.istore_n 2, 1) := by decide +kernel
theorem dX8_yanks_47 : decode cX8_yanks 47 = .ok (.iload_n 2, 1) := by decide +kernel
theorem dX8_yanks_48 : decode cX8_yanks 48 = .ok (.iload_n 1, 1) := by decide +kernel
theorem dX8_yanks_49 : decode cX8_yanks 49 = .ok (.if_icmp .ge 46, 3) := by decide +kernel
theorem dX8_yanks_52 : decode cX8_yanks 52 = .ok (.aload_n 0, 1) := by decide +kernel
theorem dX8_yanks_53 : decode cX8_yanks 53 = .ok (.getfield 7, 3) := by decide +kernel
theorem dX8_yanks_56 : decode cX8_yanks 56 = .ok (.bipush 18, 2) := by decide +kernel
theorem dX8_yanks_58 : decode cX8_yanks 58 = .ok (.aload_n 0, 1) := by decide +kernel
theorem dX8_yanks_59 : decode cX8_yanks 59 = .ok (.getfield 7, 3) := by decide +kernel
theorem dX8_yanks_62 : decode cX8_yanks 62 = .ok (.iconst 1, 1) := by decide +kernel
theorem dX8_yanks_63 : decode cX8_yanks 63 = .ok (.iaload, 1) := by decide +kernel
theorem dX8_yanks_64 : decode cX8_yanks 64 = .ok (.iadd, 1) := by decide +kernel
theorem dX8_yanks_65 : decode cX8_yanks 65 = .ok (.iload_n 2, 1) := by decide +kernel
theorem dX8_yanks_66 : decode cX8_yanks 66 = .ok (.iadd, 1) := by decide +kernel
theorem dX8_yanks_67 : decode cX8_yanks 67 = .ok (.aload_n 0, 1) := by decide +kernel
theorem dX8_yanks_68 : decode cX8_yanks 68 = .ok (.getfield 7, 3) := by decide +kernel
theorem dX8_yanks_71 : decode cX8_yanks 71 = .ok (.sipush 218, 3) := by decide +kernel
theorem dX8_yanks_74 : decode cX8_yanks 74 = .ok (.sipush 200, 3) := by decide +kernel
theorem dX8_yanks_77 : decode cX8_yanks 77 = .ok (.aload_n 0, 1) := by decide +kernel
theorem dX8_yanks_78 : decode cX8_yanks 78 = .ok (.getfield 7, 3) := by decide +kernel
theorem dX8_yanks_81 : decode cX8_yanks 81 = .ok (.iconst 4, 1) := by decide +kernel
theorem dX8_yanks_82 : decode cX8_yanks 82 = .ok (.iaload, 1) := by decide +kernel
theorem dX8_yanks_83 : decode cX8_yanks 83 = .ok (.imul, 1) := by decide +kernel
theorem dX8_yanks_84 : decode cX8_yanks 84 = .ok (.iadd, 1) := by decide +kernel
theorem dX8_yanks_85 : decode cX8_yanks 85 = .ok (.iload_n 2, 1) := by decide +kernel
theorem dX8_yanks_86 : decode cX8_yanks 86 = .ok (.iadd, 1) := by decide +kernel
theorem dX8_yanks_87 : decode cX8_yanks 87 = .ok (.iaload, 1) := by decide +kernel
theorem dX8_yanks_88 : decode cX8_yanks 88 = .ok (.iastore, 1) := by decide +kernel
theorem dX8_yanks_89 : decode cX8_yanks 89 = .ok (.iinc 2 1, 3) := by decide +kernel
theorem dX8_yanks_92 : decode cX8_yanks 92 = .ok (.goto (-45), 3) := by decide +kernel
theorem dX8_yanks_95 : decode cX8_yanks 95 = .ok (.aload_n 0, 1) := by decide +kernel
theorem dX8_yanks_96 : decode cX8_yanks 96 = .ok (.getfield 7, 3) := by decide +kernel
theorem dX8_yanks_99 : decode cX8_yanks 99 = .ok (.iconst 2, 1) := by decide +kernel
theorem dX8_yanks_100 : decode cX8_yanks 100 = .ok (.aload_n 0, 1) := by decide +kernel
theorem dX8_yanks_101 : decode cX8_yanks 101 = .ok (.getfield 7, 3) := by decide +kernel
theorem dX8_yanks_104 : decode cX8_yanks 104 = .ok (.iconst 1, 1) := by decide +kernel
theorem dX8_yanks_105 : decode cX8_yanks 105 = .ok (.iaload, 1) := by decide +kernel
theorem dX8_yanks_106 : decode cX8_yanks 106 = .ok (.iastore, 1) := by decide +kernel
theorem dX8_yanks_107 : decode cX8_yanks 107 = .ok (.aload_n 0, 1) := by decide +kernel
theorem dX8_yanks_108 : decode cX8_yanks 108 = .ok (.getfield 7, 3) := by decide +kernel
theorem dX8_yanks_111 : decode cX8_yanks 111 = .ok (.iconst 1, 1) := by decide +kernel
theorem dX8_yanks_112 : decode cX8_yanks 112 = .ok (.dup2, 1) := by decide +kernel
theorem dX8_yanks_113 : decode cX8_yanks 113 = .ok (.iaload, 1) := by decide +kernel
theorem dX8_yanks_114 : decode cX8_yanks 114 = .ok (.iload_n 1, 1) := by decide +kernel
theorem dX8_yanks_115 : decode cX8_yanks 115 = .ok (.iadd, 1) := by decide +kernel
theorem dX8_yanks_116 : decode cX8_yanks 116 = .ok (.iastore, 1) := by decide +kernel
theorem dX8_yanks_117 : decode cX8_yanks 117 = .ok (.aload_n 0, 1) := by decide +kernel
theorem dX8_yanks_118 : decode cX8_yanks 118 = .ok (.getfield 7, 3) := by decide +kernel
theorem dX8_yanks_121 : decode cX8_yanks 121 = .ok (.bipush 7, 2) := by decide +kernel
theorem dX8_yanks_123 : decode cX8_yanks 123 = .ok (.dup2, 1) := by decide +kernel
theorem dX8_yanks_124 : decode cX8_yanks 124 = .ok (.iaload, 1) := by decide +kernel
theorem dX8_yanks_125 : decode cX8_yanks 125 = .ok (.iload_n 1, 1) := by decide +kernel
theorem dX8_yanks_126 : decode cX8_yanks 126 = .ok (.iadd, 1) := by decide +kernel
theorem dX8_yanks_127 : decode cX8_yanks 127 = .ok (.iastore, 1) := by decide +kernel
theorem dX8_yanks_128 : decode cX8_yanks 128 = .ok (.iload_n 1, 1) := by decide +kernel
theorem dX8_yanks_129 : decode cX8_yanks 129 = .ok (.ireturn, 1) := by decide +kernel
theorem dX8_turns_0 : decode cX8_turns 0 = .ok (.aload_n 0, 1) := by decide +kernel
theorem dX8_turns_1 : decode cX8_turns 1 = .ok (.getfield 7, 3) := by decide +kernel
theorem dX8_turns_4 : decode cX8_turns 4 = .ok (.iconst 3, 1) := by decide +kernel
theorem dX8_turns_5 : decode cX8_turns 5 = .ok (.iaload, 1) := by decide +kernel
theorem dX8_turns_6 : decode cX8_turns 6 = .ok (.ifCond .ne 5, 3) := by decide +kernel
theorem dX8_turns_9 : decode cX8_turns 9 = .ok (.iconst (-1), 1) := by decide +kernel
theorem dX8_turns_10 : decode cX8_turns 10 = .ok (.ireturn, 1) := by decide +kernel
theorem dX8_turns_11 : decode cX8_turns 11 = .ok (.aload_n 0, 1) := by decide +kernel
theorem dX8_turns_12 : decode cX8_turns 12 = .ok (.getfield 7, 3) := by decide +kernel
theorem dX8_turns_15 : decode cX8_turns 15 = .ok (.iconst 4, 1) := by decide +kernel
theorem dX8_turns_16 : decode cX8_turns 16 = .ok (.aload_n 0, 1) := by decide +kernel
theorem dX8_turns_17 : decode cX8_turns 17 = .ok (.getfield 7, 3) := by decide +kernel
theorem dX8_turns_20 : decode cX8_turns 20 = .ok (.iconst 4, 1) := by decide +kernel
theorem dX8_turns_21 : decode cX8_turns 21 = .ok (.iaload, 1) := by decide +kernel
theorem dX8_turns_22 : decode cX8_turns 22 = .ok (.iload_n 1, 1) := by decide +kernel
theorem dX8_turns_23 : decode cX8_turns 23 = .ok (.iadd, 1) := by decide +kernel
theorem dX8_turns_24 : decode cX8_turns 24 = .ok (.bipush 40, 2) := by decide +kernel
theorem dX8_turns_26 : decode cX8_turns 26 = .ok (.aload_n 0, 1) := by decide +kernel
theorem dX8_turns_27 : decode cX8_turns 27 = .ok (.getfield 7, 3) := by decide +kernel
theorem dX8_turns_30 : decode cX8_turns 30 = .ok (.iconst 3, 1) := by decide +kernel
theorem dX8_turns_31 : decode cX8_turns 31 = .ok (.iaload, 1) := by decide +kernel
theorem dX8_turns_32 : decode cX8_turns 32 = .ok (.imul, 1) := by decide +kernel
theorem dX8_turns_33 : decode cX8_turns 33 = .ok (.iadd, 1) := by decide +kernel
theorem dX8_turns_34 : decode cX8_turns 34 = .ok (.aload_n 0, 1) := by decide +kernel
theorem dX8_turns_35 : decode cX8_turns 35 = .ok (.getfield 7, 3) := by decide +kernel
theorem dX8_turns_38 : decode cX8_turns 38 = .ok (.iconst 3, 1) := by decide +kernel
theorem dX8_turns_39 : decode cX8_turns 39 = .ok (.iaload, 1) := by decide +kernel
theorem dX8_turns_40 : decode cX8_turns 40 = .ok (.irem, 1) := by decide +kernel
theorem dX8_turns_41 : decode cX8_turns 41 = .ok (.iastore, 1) := by decide +kernel
theorem dX8_turns_42 : decode cX8_turns 42 = .ok (.aload_n 0, 1) := by decide +kernel
theorem dX8_turns_43 : decode cX8_turns 43 = .ok (.getfield 7, 3) := by decide +kernel
theorem dX8_turns_46 : decode cX8_turns 46 = .ok (.iconst 4, 1) := by decide +kernel
theorem dX8_turns_47 : decode cX8_turns 47 = .ok (.iaload, 1) := by decide +kernel
theorem dX8_turns_48 : decode cX8_turns 48 = .ok (.ireturn, 1) := by decide +kernel
theorem dX8_yanksOther_0 : decode cX8_yanksOther 0 = .ok (.aload_n 0, 1) := by decide +kernel
theorem dX8_yanksOther_1 : decode cX8_yanksOther 1 = .ok (.getfield 67, 3) := by decide +kernel
theorem dX8_yanksOther_4 : decode cX8_yanksOther 4 = .ok (.iconst 2, 1) := by decide +kernel
theorem dX8_yanksOther_5 : decode cX8_yanksOther 5 = .ok (.if_icmp .eq 5, 3) := by decide +kernel
theorem dX8_yanksOther_8 : decode cX8_yanksOther 8 = .ok (.iconst (-1), 1) := by decide +kernel
theorem dX8_yanksOther_9 : decode cX8_yanksOther 9 = .ok (.ireturn, 1) := by decide +kernel
theorem dX8_yanksOther_10 : decode cX8_yanksOther 10 = .ok (.aload_n 0, 1) := by decide +kernel
theorem dX8_yanksOther_11 : decode cX8_yanksOther 11 = .ok (.getfield 7, 3) := by decide +kernel
theorem dX8_yanksOther_14 : decode cX8_yanksOther 14 = .ok (.bipush 10, 2) := by decide +kernel
theorem dX8_yanksOther_16 : decode cX8_yanksOther 16 = .ok (.aload_n 0, 1) := by decide +kernel
theorem dX8_yanksOther_17 : decode cX8_yanksOther 17 = .ok (.getfield 7, 3) := by decide +kernel
theorem dX8_yanksOther_20 : decode cX8_yanksOther 20 = .ok (.iconst 4, 1) := by decide +kernel
theorem dX8_yanksOther_21 : decode cX8_yanksOther 21 = .ok (.iaload, 1) := by decide +kernel
theorem dX8_yanksOther_22 : decode cX8_yanksOther 22 = .ok (.iconst 1, 1) := by decide +kernel
theorem dX8_yanksOther_23 : decode cX8_yanksOther 23 = .ok (.iadd, 1) := by decide +kernel
theorem dX8_yanksOther_24 : decode cX8_yanksOther 24 = .ok (.aload_n 0, 1) := by decide +kernel
theorem dX8_yanksOther_25 : decode cX8_yanksOther 25 = .ok (.getfield 7, 3) := by decide +kernel
theorem dX8_yanksOther_28 : decode cX8_yanksOther 28 = .ok (.iconst 3, 1) := by decide +kernel
theorem dX8_yanksOther_29 : decode cX8_yanksOther 29 = .ok (.iaload, 1) := by decide +kernel
theorem dX8_yanksOther_30 : decode cX8_yanksOther 30 = .ok (.irem, 1) := by decide +kernel
theorem dX8_yanksOther_31 : decode cX8_yanksOther 31 = .ok (.iadd, 1) := by decide +kernel
theorem dX8_yanksOther_32 : decode cX8_yanksOther 32 = .ok (.iaload, 1) := by decide +kernel
theorem dX8_yanksOther_33 : decode cX8_yanksOther 33 = .ok (.istore_n 1, 1) := by decide +kernel
theorem dX8_yanksOther_34 : decode cX8_yanksOther 34 = .ok (.aload_n 0, 1) := by decide +kernel
theorem dX8_yanksOther_35 : decode cX8_yanksOther 35 = .ok (.getfield 7, 3) := by decide +kernel
theorem dX8_yanksOther_38 : decode cX8_yanksOther 38 = .ok (.iconst 0, 1) := by decide +kernel
theorem dX8_yanksOther_39 : decode cX8_yanksOther 39 = .ok (.iaload, 1) := by decide +kernel
theorem dX8_yanksOther_40 : decode cX8_yanksOther 40 = .ok (.aload_n 0, 1) := by decide +kernel
theorem dX8_yanksOther_41 : decode cX8_yanksOther 41 = .ok (.invokevirtual 84, 3) := by decide +kernel
theorem dX8_yanksOther_44 : decode cX8_yanksOther 44 = .ok (.isub, 1) := by decide +kernel
theorem dX8_yanksOther_45 : decode cX8_yanksOther 45 = .ok (.iload_n 1, 1) := by decide +kernel
theorem dX8_yanksOther_46 : decode cX8_yanksOther 46 = .ok (.iadd, 1) := by decide +kernel
theorem dX8_yanksOther_47 : decode cX8_yanksOther 47 = .ok (.sipush 200, 3) := by decide +kernel
theorem dX8_yanksOther_50 : decode cX8_yanksOther 50 = .ok (.if_icmp .le 5, 3) := by decide +kernel
theorem dX8_yanksOther_53 : decode cX8_yanksOther 53 = .ok (.iconst (-1), 1) := by decide +kernel
theorem dX8_yanksOther_54 : decode cX8_yanksOther 54 = .ok (.ireturn, 1) := by decide +kernel
theorem dX8_yanksOther_55 : decode cX8_yanksOther 55 = .ok (.aload_n 0, 1) := by decide +kernel
theorem dX8_yanksOther_56 : decode cX8_yanksOther 56 = .ok (.aload_n 0, 1) := by decide +kernel
theorem dX8_yanksOther_57 : decode cX8_yanksOther 57 = .ok (.getfield 7, 3) := by decide +kernel
theorem dX8_yanksOther_60 : decode cX8_yanksOther 60 = .ok (.iconst 2, 1) := by decide +kernel
theorem dX8_yanksOther_61 : decode cX8_yanksOther 61 = .ok (.iaload, 1) := by decide +kernel
theorem dX8_yanksOther_62 : decode cX8_yanksOther 62 = .ok (.aload_n 0, 1) := by decide +kernel
theorem dX8_yanksOther_63 : decode cX8_yanksOther 63 = .ok (.getfield 7, 3) := by decide +kernel
theorem dX8_yanksOther_66 : decode cX8_yanksOther 66 = .ok (.iconst 1, 1) := by decide +kernel
theorem dX8_yanksOther_67 : decode cX8_yanksOther 67 = .ok (.iaload, 1) := by decide +kernel
theorem dX8_yanksOther_68 : decode cX8_yanksOther 68 = .ok (.invokevirtual 55, 3) := by decide +kernel
theorem dX8_yanksOther_71 : decode cX8_yanksOther 71 = .ok (.aload_n 0, 1) := by decide +kernel
theorem dX8_yanksOther_72 : decode cX8_yanksOther 72 = .ok (.iconst 1, 1) := by decide +kernel
theorem dX8_yanksOther_73 : decode cX8_yanksOther 73 = .ok (.invokevirtual 88, 3) := by decide +kernel
theorem dX8_yanksOther_76 : decode cX8_yanksOther 76 = .ok (.pop, 1) := by decide +kernel
theorem dX8_yanksOther_77 : decode cX8_yanksOther 77 = .ok (.aload_n 0, 1) := by decide +kernel
theorem dX8_yanksOther_78 : decode cX8_yanksOther 78 = .ok (.invokevirtual 91, 3) := by decide +kernel
theorem dX8_yanksOther_81 : decode cX8_yanksOther 81 = .ok (.ireturn, 1) := by decide +kernel
theorem dX8_does_0 : decode cX8_does 0 = .ok (.iload_n 1, 1) := by decide +kernel
theorem dX8_does_1 : decode cX8_does 1 = .ok (.lookupswitch 223 #[(66, 148), (70, 133), (87, 208), (97, 163), (98, 120), (101, 178), (102, 107), (107, 213), (109, 193), (114, 218), (119, 203), (120, 198)], 107) := by decide +kernel
theorem dX8_does_108 : decode cX8_does 108 = .ok (.aload_n 0, 1) := by decide +kernel
theorem dX8_does_109 : decode cX8_does 109 = .ok (.aload_n 0, 1) := by decide +kernel
theorem dX8_does_110 : decode cX8_does 110 = .ok (.getfield 7, 3) := by decide +kernel
theorem dX8_does_113 : decode cX8_does 113 = .ok (.iconst 1, 1) := by decide +kernel
theorem dX8_does_114 : decode cX8_does 114 = .ok (.iaload, 1) := by decide +kernel
theorem dX8_does_115 : decode cX8_does 115 = .ok (.iconst 1, 1) := by decide +kernel
theorem dX8_does_116 : decode cX8_does 116 = .ok (.iadd, 1) := by decide +kernel
theorem dX8_does_117 : decode cX8_does 117 = .ok (.invokevirtual 94, 3) := by decide +kernel
theorem dX8_does_120 : decode cX8_does 120 = .ok (.ireturn, 1) := by decide +kernel
theorem dX8_does_121 : decode cX8_does 121 = .ok (.aload_n 0, 1) := by decide +kernel
theorem dX8_does_122 : decode cX8_does 122 = .ok (.aload_n 0, 1) := by decide +kernel
theorem dX8_does_123 : decode cX8_does 123 = .ok (.getfield 7, 3) := by decide +kernel
theorem dX8_does_126 : decode cX8_does 126 = .ok (.iconst 1, 1) := by decide +kernel
theorem dX8_does_127 : decode cX8_does 127 = .ok (.iaload, 1) := by decide +kernel
theorem dX8_does_128 : decode cX8_does 128 = .ok (.iconst 1, 1) := by decide +kernel
theorem dX8_does_129 : decode cX8_does 129 = .ok (.isub, 1) := by decide +kernel
theorem dX8_does_130 : decode cX8_does 130 = .ok (.invokevirtual 94, 3) := by decide +kernel
theorem dX8_does_133 : decode cX8_does 133 = .ok (.ireturn, 1) := by decide +kernel
theorem dX8_does_134 : decode cX8_does 134 = .ok (.aload_n 0, 1) := by decide +kernel
theorem dX8_does_135 : decode cX8_does 135 = .ok (.aload_n 0, 1) := by decide +kernel
theorem dX8_does_136 : decode cX8_does 136 = .ok (.aload_n 0, 1) := by decide +kernel
theorem dX8_does_137 : decode cX8_does 137 = .ok (.getfield 7, 3) := by decide +kernel
theorem dX8_does_140 : decode cX8_does 140 = .ok (.iconst 1, 1) := by decide +kernel
theorem dX8_does_141 : decode cX8_does 141 = .ok (.iaload, 1) := by decide +kernel
theorem dX8_does_142 : decode cX8_does 142 = .ok (.invokevirtual 58, 3) := by decide +kernel
theorem dX8_does_145 : decode cX8_does 145 = .ok (.invokevirtual 94, 3) := by decide +kernel
theorem dX8_does_148 : decode cX8_does 148 = .ok (.ireturn, 1) := by decide +kernel
theorem dX8_does_149 : decode cX8_does 149 = .ok (.aload_n 0, 1) := by decide +kernel
theorem dX8_does_150 : decode cX8_does 150 = .ok (.aload_n 0, 1) := by decide +kernel
theorem dX8_does_151 : decode cX8_does 151 = .ok (.aload_n 0, 1) := by decide +kernel
theorem dX8_does_152 : decode cX8_does 152 = .ok (.getfield 7, 3) := by decide +kernel
theorem dX8_does_155 : decode cX8_does 155 = .ok (.iconst 1, 1) := by decide +kernel
theorem dX8_does_156 : decode cX8_does 156 = .ok (.iaload, 1) := by decide +kernel
theorem dX8_does_157 : decode cX8_does 157 = .ok (.invokevirtual 81, 3) := by decide +kernel
theorem dX8_does_160 : decode cX8_does 160 = .ok (.invokevirtual 94, 3) := by decide +kernel
theorem dX8_does_163 : decode cX8_does 163 = .ok (.ireturn, 1) := by decide +kernel
theorem dX8_does_164 : decode cX8_does 164 = .ok (.aload_n 0, 1) := by decide +kernel
theorem dX8_does_165 : decode cX8_does 165 = .ok (.aload_n 0, 1) := by decide +kernel
theorem dX8_does_166 : decode cX8_does 166 = .ok (.aload_n 0, 1) := by decide +kernel
theorem dX8_does_167 : decode cX8_does 167 = .ok (.getfield 7, 3) := by decide +kernel
theorem dX8_does_170 : decode cX8_does 170 = .ok (.iconst 1, 1) := by decide +kernel
theorem dX8_does_171 : decode cX8_does 171 = .ok (.iaload, 1) := by decide +kernel
theorem dX8_does_172 : decode cX8_does 172 = .ok (.invokevirtual 61, 3) := by decide +kernel
theorem dX8_does_175 : decode cX8_does 175 = .ok (.invokevirtual 94, 3) := by decide +kernel
theorem dX8_does_178 : decode cX8_does 178 = .ok (.ireturn, 1) := by decide +kernel
theorem dX8_does_179 : decode cX8_does 179 = .ok (.aload_n 0, 1) := by decide +kernel
theorem dX8_does_180 : decode cX8_does 180 = .ok (.aload_n 0, 1) := by decide +kernel
theorem dX8_does_181 : decode cX8_does 181 = .ok (.aload_n 0, 1) := by decide +kernel
theorem dX8_does_182 : decode cX8_does 182 = .ok (.getfield 7, 3) := by decide +kernel
theorem dX8_does_185 : decode cX8_does 185 = .ok (.iconst 1, 1) := by decide +kernel
theorem dX8_does_186 : decode cX8_does 186 = .ok (.iaload, 1) := by decide +kernel
theorem dX8_does_187 : decode cX8_does 187 = .ok (.invokevirtual 64, 3) := by decide +kernel
theorem dX8_does_190 : decode cX8_does 190 = .ok (.invokevirtual 94, 3) := by decide +kernel
theorem dX8_does_193 : decode cX8_does 193 = .ok (.ireturn, 1) := by decide +kernel
theorem dX8_does_194 : decode cX8_does 194 = .ok (.aload_n 0, 1) := by decide +kernel
theorem dX8_does_195 : decode cX8_does 195 = .ok (.invokevirtual 97, 3) := by decide +kernel
theorem dX8_does_198 : decode cX8_does 198 = .ok (.ireturn, 1) := by decide +kernel
theorem dX8_does_199 : decode cX8_does 199 = .ok (.aload_n 0, 1) := by decide +kernel
theorem dX8_does_200 : decode cX8_does 200 = .ok (.invokevirtual 100, 3) := by decide +kernel
theorem dX8_does_203 : decode cX8_does 203 = .ok (.ireturn, 1) := by decide +kernel
theorem dX8_does_204 : decode cX8_does 204 = .ok (.aload_n 0, 1) := by decide +kernel
theorem dX8_does_205 : decode cX8_does 205 = .ok (.invokevirtual 103, 3) := by decide +kernel
theorem dX8_does_208 : decode cX8_does 208 = .ok (.ireturn, 1) := by decide +kernel
theorem dX8_does_209 : decode cX8_does 209 = .ok (.aload_n 0, 1) := by decide +kernel
theorem dX8_does_210 : decode cX8_does 210 = .ok (.invokevirtual 106, 3) := by decide +kernel
theorem dX8_does_213 : decode cX8_does 213 = .ok (.ireturn, 1) := by decide +kernel
theorem dX8_does_214 : decode cX8_does 214 = .ok (.aload_n 0, 1) := by decide +kernel
theorem dX8_does_215 : decode cX8_does 215 = .ok (.invokevirtual 109, 3) := by decide +kernel
theorem dX8_does_218 : decode cX8_does 218 = .ok (.ireturn, 1) := by decide +kernel
theorem dX8_does_219 : decode cX8_does 219 = .ok (.aload_n 0, 1) := by decide +kernel
theorem dX8_does_220 : decode cX8_does 220 = .ok (.invokevirtual 112, 3) := by decide +kernel
theorem dX8_does_223 : decode cX8_does 223 = .ok (.ireturn, 1) := by decide +kernel
theorem dX8_does_224 : decode cX8_does 224 = .ok (.aload_n 0, 1) := by decide +kernel
theorem dX8_does_225 : decode cX8_does 225 = .ok (.iload_n 1, 1) := by decide +kernel
theorem dX8_does_226 : decode cX8_does 226 = .ok (.iload_n 2, 1) := by decide +kernel
theorem dX8_does_227 : decode cX8_does 227 = .ok (.invokevirtual 115, 3) := by decide +kernel
theorem dX8_does_230 : decode cX8_does 230 = .ok (.ireturn, 1) := by decide +kernel
theorem dX8_doesMore_0 : decode cX8_doesMore 0 = .ok (.iload_n 1, 1) := by decide +kernel
theorem dX8_doesMore_1 : decode cX8_doesMore 1 = .ok (.tableswitch 173 95 121 #[166, 173, 173, 173, 123, 173, 173, 173, 154, 173, 173, 173, 173, 173, 173, 159, 173, 133, 173, 173, 149, 138, 144, 173, 173, 173, 128], 123) := by decide +kernel
theorem dX8_doesMore_124 : decode cX8_doesMore 124 = .ok (.aload_n 0, 1) := by decide +kernel
theorem dX8_doesMore_125 : decode cX8_doesMore 125 = .ok (.invokevirtual 119, 3) := by decide +kernel
theorem dX8_doesMore_128 : decode cX8_doesMore 128 = .ok (.ireturn, 1) := by decide +kernel
theorem dX8_doesMore_129 : decode cX8_doesMore 129 = .ok (.aload_n 0, 1) := by decide +kernel
theorem dX8_doesMore_130 : decode cX8_doesMore 130 = .ok (.invokevirtual 91, 3) := by decide +kernel
theorem dX8_doesMore_133 : decode cX8_doesMore 133 = .ok (.ireturn, 1) := by decide +kernel
theorem dX8_doesMore_134 : decode cX8_doesMore 134 = .ok (.aload_n 0, 1) := by decide +kernel
theorem dX8_doesMore_135 : decode cX8_doesMore 135 = .ok (.invokevirtual 122, 3) := by decide +kernel
theorem dX8_doesMore_138 : decode cX8_doesMore 138 = .ok (.ireturn, 1) := by decide +kernel
theorem dX8_doesMore_139 : decode cX8_doesMore 139 = .ok (.aload_n 0, 1) := by decide +kernel
theorem dX8_doesMore_140 : decode cX8_doesMore 140 = .ok (.iconst 1, 1) := by decide +kernel
theorem dX8_doesMore_141 : decode cX8_doesMore 141 = .ok (.invokevirtual 88, 3) := by decide +kernel
theorem dX8_doesMore_144 : decode cX8_doesMore 144 = .ok (.ireturn, 1) := by decide +kernel
theorem dX8_doesMore_145 : decode cX8_doesMore 145 = .ok (.aload_n 0, 1) := by decide +kernel
theorem dX8_doesMore_146 : decode cX8_doesMore 146 = .ok (.invokevirtual 125, 3) := by decide +kernel
theorem dX8_doesMore_149 : decode cX8_doesMore 149 = .ok (.ireturn, 1) := by decide +kernel
theorem dX8_doesMore_150 : decode cX8_doesMore 150 = .ok (.aload_n 0, 1) := by decide +kernel
theorem dX8_doesMore_151 : decode cX8_doesMore 151 = .ok (.invokevirtual 128, 3) := by decide +kernel
theorem dX8_doesMore_154 : decode cX8_doesMore 154 = .ok (.ireturn, 1) := by decide +kernel
theorem dX8_doesMore_155 : decode cX8_doesMore 155 = .ok (.aload_n 0, 1) := by decide +kernel
theorem dX8_doesMore_156 : decode cX8_doesMore 156 = .ok (.invokevirtual 131, 3) := by decide +kernel
theorem dX8_doesMore_159 : decode cX8_doesMore 159 = .ok (.ireturn, 1) := by decide +kernel
theorem dX8_doesMore_160 : decode cX8_doesMore 160 = .ok (.aload_n 0, 1) := by decide +kernel
theorem dX8_doesMore_161 : decode cX8_doesMore 161 = .ok (.bipush 10, 2) := by decide +kernel
theorem dX8_doesMore_163 : decode cX8_doesMore 163 = .ok (.invokevirtual 134, 3) := by decide +kernel
theorem dX8_doesMore_166 : decode cX8_doesMore 166 = .ok (.ireturn, 1) := by decide +kernel
theorem dX8_doesMore_167 : decode cX8_doesMore 167 = .ok (.aload_n 0, 1) := by decide +kernel
theorem dX8_doesMore_168 : decode cX8_doesMore 168 = .ok (.bipush 32, 2) := by decide +kernel
theorem dX8_doesMore_170 : decode cX8_doesMore 170 = .ok (.invokevirtual 134, 3) := by decide +kernel
theorem dX8_doesMore_173 : decode cX8_doesMore 173 = .ok (.ireturn, 1) := by decide +kernel
theorem dX8_doesMore_174 : decode cX8_doesMore 174 = .ok (.aload_n 0, 1) := by decide +kernel
theorem dX8_doesMore_175 : decode cX8_doesMore 175 = .ok (.iload_n 2, 1) := by decide +kernel
theorem dX8_doesMore_176 : decode cX8_doesMore 176 = .ok (.invokevirtual 134, 3) := by decide +kernel
theorem dX8_doesMore_179 : decode cX8_doesMore 179 = .ok (.ireturn, 1) := by decide +kernel
theorem dX8_kindOf_0 : decode cX8_kindOf 0 = .ok (.iload_n 0, 1) := by decide +kernel
theorem dX8_kindOf_1 : decode cX8_kindOf 1 = .ok (.bipush 119, 2) := by decide +kernel
theorem dX8_kindOf_3 : decode cX8_kindOf 3 = .ok (.if_icmp .eq 21, 3) := by decide +kernel
theorem dX8_kindOf_6 : decode cX8_kindOf 6 = .ok (.iload_n 0, 1) := by decide +kernel
theorem dX8_kindOf_7 : decode cX8_kindOf 7 = .ok (.bipush 87, 2) := by decide +kernel
theorem dX8_kindOf_9 : decode cX8_kindOf 9 = .ok (.if_icmp .eq 15, 3) := by decide +kernel
theorem dX8_kindOf_12 : decode cX8_kindOf 12 = .ok (.iload_n 0, 1) := by decide +kernel
theorem dX8_kindOf_13 : decode cX8_kindOf 13 = .ok (.bipush 107, 2) := by decide +kernel
theorem dX8_kindOf_15 : decode cX8_kindOf 15 = .ok (.if_icmp .eq 9, 3) := by decide +kernel
theorem dX8_kindOf_18 : decode cX8_kindOf 18 = .ok (.iload_n 0, 1) := by decide +kernel
theorem dX8_kindOf_19 : decode cX8_kindOf 19 = .ok (.bipush 114, 2) := by decide +kernel
theorem dX8_kindOf_21 : decode cX8_kindOf 21 = .ok (.if_icmp .ne 7, 3) := by decide +kernel
theorem dX8_kindOf_24 : decode cX8_kindOf 24 = .ok (.iconst 1, 1) := by decide +kernel
theorem dX8_kindOf_25 : decode cX8_kindOf 25 = .ok (.goto 20, 3) := by decide +kernel
theorem dX8_kindOf_28 : decode cX8_kindOf 28 = .ok (.iload_n 0, 1) := by decide +kernel
theorem dX8_kindOf_29 : decode cX8_kindOf 29 = .ok (.bipush 121, 2) := by decide +kernel
theorem dX8_kindOf_31 : decode cX8_kindOf 31 = .ok (.if_icmp .eq 9, 3) := by decide +kernel
theorem dX8_kindOf_34 : decode cX8_kindOf 34 = .ok (.iload_n 0, 1) := by decide +kernel
theorem dX8_kindOf_35 : decode cX8_kindOf 35 = .ok (.bipush 112, 2) := by decide +kernel
theorem dX8_kindOf_37 : decode cX8_kindOf 37 = .ok (.if_icmp .ne 7, 3) := by decide +kernel
theorem dX8_kindOf_40 : decode cX8_kindOf 40 = .ok (.iconst 2, 1) := by decide +kernel
theorem dX8_kindOf_41 : decode cX8_kindOf 41 = .ok (.goto 4, 3) := by decide +kernel
theorem dX8_kindOf_44 : decode cX8_kindOf 44 = .ok (.iconst 0, 1) := by decide +kernel
theorem dX8_kindOf_45 : decode cX8_kindOf 45 = .ok (.ireturn, 1) := by decide +kernel
theorem dX8_acts_0 : decode cX8_acts 0 = .ok (.aload_n 0, 1) := by decide +kernel
theorem dX8_acts_1 : decode cX8_acts 1 = .ok (.iconst 0, 1) := by decide +kernel
theorem dX8_acts_2 : decode cX8_acts 2 = .ok (.bipush 9, 2) := by decide +kernel
theorem dX8_acts_4 : decode cX8_acts 4 = .ok (.invokevirtual 28, 3) := by decide +kernel
theorem dX8_acts_7 : decode cX8_acts 7 = .ok (.aload_n 0, 1) := by decide +kernel
theorem dX8_acts_8 : decode cX8_acts 8 = .ok (.iload_n 1, 1) := by decide +kernel
theorem dX8_acts_9 : decode cX8_acts 9 = .ok (.iconst 0, 1) := by decide +kernel
theorem dX8_acts_10 : decode cX8_acts 10 = .ok (.invokevirtual 137, 3) := by decide +kernel
theorem dX8_acts_13 : decode cX8_acts 13 = .ok (.istore_n 2, 1) := by decide +kernel
theorem dX8_acts_14 : decode cX8_acts 14 = .ok (.iload_n 2, 1) := by decide +kernel
theorem dX8_acts_15 : decode cX8_acts 15 = .ok (.ifCond .ge 17, 3) := by decide +kernel
theorem dX8_acts_18 : decode cX8_acts 18 = .ok (.aload_n 0, 1) := by decide +kernel
theorem dX8_acts_19 : decode cX8_acts 19 = .ok (.bipush 9, 2) := by decide +kernel
theorem dX8_acts_21 : decode cX8_acts 21 = .ok (.iconst 0, 1) := by decide +kernel
theorem dX8_acts_22 : decode cX8_acts 22 = .ok (.invokevirtual 28, 3) := by decide +kernel
theorem dX8_acts_25 : decode cX8_acts 25 = .ok (.aload_n 0, 1) := by decide +kernel
theorem dX8_acts_26 : decode cX8_acts 26 = .ok (.iconst 1, 1) := by decide +kernel
theorem dX8_acts_27 : decode cX8_acts 27 = .ok (.putfield 21, 3) := by decide +kernel
theorem dX8_acts_30 : decode cX8_acts 30 = .ok (.iconst 0, 1) := by decide +kernel
theorem dX8_acts_31 : decode cX8_acts 31 = .ok (.ireturn, 1) := by decide +kernel
theorem dX8_acts_32 : decode cX8_acts 32 = .ok (.aload_n 0, 1) := by decide +kernel
theorem dX8_acts_33 : decode cX8_acts 33 = .ok (.invokevirtual 140, 3) := by decide +kernel
theorem dX8_acts_36 : decode cX8_acts 36 = .ok (.aload_n 0, 1) := by decide +kernel
theorem dX8_acts_37 : decode cX8_acts 37 = .ok (.iconst 0, 1) := by decide +kernel
theorem dX8_acts_38 : decode cX8_acts 38 = .ok (.putfield 21, 3) := by decide +kernel
theorem dX8_acts_41 : decode cX8_acts 41 = .ok (.aload_n 0, 1) := by decide +kernel
theorem dX8_acts_42 : decode cX8_acts 42 = .ok (.iload_n 1, 1) := by decide +kernel
theorem dX8_acts_43 : decode cX8_acts 43 = .ok (.invokestatic 143, 3) := by decide +kernel
theorem dX8_acts_46 : decode cX8_acts 46 = .ok (.putfield 67, 3) := by decide +kernel
theorem dX8_acts_49 : decode cX8_acts 49 = .ok (.iload_n 2, 1) := by decide +kernel
theorem dX8_acts_50 : decode cX8_acts 50 = .ok (.ireturn, 1) := by decide +kernel
theorem dX8_remembers_0 : decode cX8_remembers 0 = .ok (.aload_n 0, 1) := by decide +kernel
theorem dX8_remembers_1 : decode cX8_remembers 1 = .ok (.getfield 25, 3) := by decide +kernel
theorem dX8_remembers_4 : decode cX8_remembers 4 = .ok (.bipush 6, 2) := by decide +kernel
theorem dX8_remembers_6 : decode cX8_remembers 6 = .ok (.if_icmp .ne 35, 3) := by decide +kernel
theorem dX8_remembers_9 : decode cX8_remembers 9 = .ok (.iconst 1, 1) := by decide +kernel
theorem dX8_remembers_10 : decode cX8_remembers 10 = .ok (.istore_n 1, 1) := by decide +kernel
theorem dX8_remembers_11 : decode cX8_remembers 11 = .ok (.iload_n 1, 1) := by decide +kernel
theorem dX8_remembers_12 : decode cX8_remembers 12 = .ok (.bipush 6, 2) := by decide +kernel
theorem dX8_remembers_14 : decode cX8_remembers 14 = .ok (.if_icmp .ge 17, 3) := by decide +kernel
theorem dX8_remembers_17 : decode cX8_remembers 17 = .ok (.aload_n 0, 1) := by decide +kernel
theorem dX8_remembers_18 : decode cX8_remembers 18 = .ok (.iload_n 1, 1) := by decide +kernel
theorem dX8_remembers_19 : decode cX8_remembers 19 = .ok (.iconst 1, 1) := by decide +kernel
theorem dX8_remembers_20 : decode cX8_remembers 20 = .ok (.iadd, 1) := by decide +kernel
theorem dX8_remembers_21 : decode cX8_remembers 21 = .ok (.iload_n 1, 1) := by decide +kernel
theorem dX8_remembers_22 : decode cX8_remembers 22 = .ok (.invokevirtual 28, 3) := by decide +kernel
theorem dX8_remembers_25 : decode cX8_remembers 25 = .ok (.iinc 1 1, 3) := by decide +kernel
theorem dX8_remembers_28 : decode cX8_remembers 28 = .ok (.goto (-17), 3) := by decide +kernel
theorem dX8_remembers_31 : decode cX8_remembers 31 = .ok (.aload_n 0, 1) := by decide +kernel
theorem dX8_remembers_32 : decode cX8_remembers 32 = .ok (.dup, 1) := by decide +kernel
theorem dX8_remembers_33 : decode cX8_remembers 33 = .ok (.getfield 25, 3) := by decide +kernel
theorem dX8_remembers_36 : decode cX8_remembers 36 = .ok (.iconst 1, 1) := by decide +kernel
theorem dX8_remembers_37 : decode cX8_remembers 37 = .ok (.isub, 1) := by decide +kernel
theorem dX8_remembers_38 : decode cX8_remembers 38 = .ok (.putfield 25, 3) := by decide +kernel
theorem dX8_remembers_41 : decode cX8_remembers 41 = .ok (.aload_n 0, 1) := by decide +kernel
theorem dX8_remembers_42 : decode cX8_remembers 42 = .ok (.dup, 1) := by decide +kernel
theorem dX8_remembers_43 : decode cX8_remembers 43 = .ok (.getfield 25, 3) := by decide +kernel
theorem dX8_remembers_46 : decode cX8_remembers 46 = .ok (.iconst 1, 1) := by decide +kernel
theorem dX8_remembers_47 : decode cX8_remembers 47 = .ok (.iadd, 1) := by decide +kernel
theorem dX8_remembers_48 : decode cX8_remembers 48 = .ok (.putfield 25, 3) := by decide +kernel
theorem dX8_remembers_51 : decode cX8_remembers 51 = .ok (.aload_n 0, 1) := by decide +kernel
theorem dX8_remembers_52 : decode cX8_remembers 52 = .ok (.bipush 9, 2) := by decide +kernel
theorem dX8_remembers_54 : decode cX8_remembers 54 = .ok (.aload_n 0, 1) := by decide +kernel
theorem dX8_remembers_55 : decode cX8_remembers 55 = .ok (.getfield 25, 3) := by decide +kernel
theorem dX8_remembers_58 : decode cX8_remembers 58 = .ok (.invokevirtual 28, 3) := by decide +kernel
theorem dX8_remembers_61 : decode cX8_remembers 61 = .ok (.return_, 1) := by decide +kernel
theorem dX8_write_0 : decode cX8_write 0 = .ok (.iload_n 1, 1) := by decide +kernel
theorem dX8_write_1 : decode cX8_write 1 = .ok (.bipush 10, 2) := by decide +kernel
theorem dX8_write_3 : decode cX8_write 3 = .ok (.if_icmp .eq 14, 3) := by decide +kernel
theorem dX8_write_6 : decode cX8_write 6 = .ok (.iload_n 1, 1) := by decide +kernel
theorem dX8_write_7 : decode cX8_write 7 = .ok (.bipush 32, 2) := by decide +kernel
theorem dX8_write_9 : decode cX8_write 9 = .ok (.bipush 126, 2) := by decide +kernel
theorem dX8_write_11 : decode cX8_write 11 = .ok (.invokestatic 32, 3) := by decide +kernel
theorem dX8_write_14 : decode cX8_write 14 = .ok (.ifCond .eq 7, 3) := by decide +kernel
theorem dX8_write_17 : decode cX8_write 17 = .ok (.iconst 1, 1) := by decide +kernel
theorem dX8_write_18 : decode cX8_write 18 = .ok (.goto 4, 3) := by decide +kernel
theorem dX8_write_21 : decode cX8_write 21 = .ok (.iconst 0, 1) := by decide +kernel
theorem dX8_write_22 : decode cX8_write 22 = .ok (.istore_n 2, 1) := by decide +kernel
theorem dX8_write_23 : decode cX8_write 23 = .ok (.aload_n 0, 1) := by decide +kernel
theorem dX8_write_24 : decode cX8_write 24 = .ok (.iload_n 2, 1) := by decide +kernel
theorem dX8_write_25 : decode cX8_write 25 = .ok (.aload_n 0, 1) := by decide +kernel
theorem dX8_write_26 : decode cX8_write 26 = .ok (.getfield 7, 3) := by decide +kernel
theorem dX8_write_29 : decode cX8_write 29 = .ok (.iconst 0, 1) := by decide +kernel
theorem dX8_write_30 : decode cX8_write 30 = .ok (.iaload, 1) := by decide +kernel
theorem dX8_write_31 : decode cX8_write 31 = .ok (.sipush 200, 3) := by decide +kernel
theorem dX8_write_34 : decode cX8_write 34 = .ok (.if_icmp .ge 7, 3) := by decide +kernel
theorem dX8_write_37 : decode cX8_write 37 = .ok (.iconst 1, 1) := by decide +kernel
theorem dX8_write_38 : decode cX8_write 38 = .ok (.goto 4, 3) := by decide +kernel
theorem dX8_write_41 : decode cX8_write 41 = .ok (.iconst 0, 1) := by decide +kernel
theorem dX8_write_42 : decode cX8_write 42 = .ok (.iconst 1, 1) := by decide +kernel
theorem dX8_write_43 : decode cX8_write 43 = .ok (.invokevirtual 146, 3) := by decide +kernel
theorem dX8_write_46 : decode cX8_write 46 = .ok (.ifCond .ne 5, 3) := by decide +kernel
theorem dX8_write_49 : decode cX8_write 49 = .ok (.iconst 0, 1) := by decide +kernel
theorem dX8_write_50 : decode cX8_write 50 = .ok (.ireturn, 1) := by decide +kernel
theorem dX8_write_51 : decode cX8_write 51 = .ok (.aload_n 0, 1) := by decide +kernel
theorem dX8_write_52 : decode cX8_write 52 = .ok (.invokevirtual 150, 3) := by decide +kernel
theorem dX8_write_55 : decode cX8_write 55 = .ok (.aload_n 0, 1) := by decide +kernel
theorem dX8_write_56 : decode cX8_write 56 = .ok (.iconst 0, 1) := by decide +kernel
theorem dX8_write_57 : decode cX8_write 57 = .ok (.putfield 67, 3) := by decide +kernel
theorem dX8_write_60 : decode cX8_write 60 = .ok (.aload_n 0, 1) := by decide +kernel
theorem dX8_write_61 : decode cX8_write 61 = .ok (.iload_n 1, 1) := by decide +kernel
theorem dX8_write_62 : decode cX8_write 62 = .ok (.invokevirtual 134, 3) := by decide +kernel
theorem dX8_write_65 : decode cX8_write 65 = .ok (.ireturn, 1) := by decide +kernel
theorem dX8_rub_0 : decode cX8_rub 0 = .ok (.aload_n 0, 1) := by decide +kernel
theorem dX8_rub_1 : decode cX8_rub 1 = .ok (.bipush 117, 2) := by decide +kernel
theorem dX8_rub_3 : decode cX8_rub 3 = .ok (.invokevirtual 153, 3) := by decide +kernel
theorem dX8_rub_6 : decode cX8_rub 6 = .ok (.ireturn, 1) := by decide +kernel
theorem dX8_swap_0 : decode cX8_swap 0 = .ok (.aload_n 0, 1) := by decide +kernel
theorem dX8_swap_1 : decode cX8_swap 1 = .ok (.bipush 115, 2) := by decide +kernel
theorem dX8_swap_3 : decode cX8_swap 3 = .ok (.invokevirtual 153, 3) := by decide +kernel
theorem dX8_swap_6 : decode cX8_swap 6 = .ok (.ireturn, 1) := by decide +kernel
theorem dX8_greaten_0 : decode cX8_greaten 0 = .ok (.aload_n 0, 1) := by decide +kernel
theorem dX8_greaten_1 : decode cX8_greaten 1 = .ok (.bipush 103, 2) := by decide +kernel
theorem dX8_greaten_3 : decode cX8_greaten 3 = .ok (.invokevirtual 153, 3) := by decide +kernel
theorem dX8_greaten_6 : decode cX8_greaten 6 = .ok (.ireturn, 1) := by decide +kernel
theorem dX8_goTo_0 : decode cX8_goTo 0 = .ok (.aload_n 0, 1) := by decide +kernel
theorem dX8_goTo_1 : decode cX8_goTo 1 = .ok (.iload_n 1, 1) := by decide +kernel
theorem dX8_goTo_2 : decode cX8_goTo 2 = .ok (.iconst 0, 1) := by decide +kernel
theorem dX8_goTo_3 : decode cX8_goTo 3 = .ok (.aload_n 0, 1) := by decide +kernel
theorem dX8_goTo_4 : decode cX8_goTo 4 = .ok (.getfield 7, 3) := by decide +kernel
theorem dX8_goTo_7 : decode cX8_goTo 7 = .ok (.iconst 0, 1) := by decide +kernel
theorem dX8_goTo_8 : decode cX8_goTo 8 = .ok (.iaload, 1) := by decide +kernel
theorem dX8_goTo_9 : decode cX8_goTo 9 = .ok (.invokestatic 32, 3) := by decide +kernel
theorem dX8_goTo_12 : decode cX8_goTo 12 = .ok (.iconst 1, 1) := by decide +kernel
theorem dX8_goTo_13 : decode cX8_goTo 13 = .ok (.iconst 1, 1) := by decide +kernel
theorem dX8_goTo_14 : decode cX8_goTo 14 = .ok (.invokevirtual 146, 3) := by decide +kernel
theorem dX8_goTo_17 : decode cX8_goTo 17 = .ok (.ifCond .ne 5, 3) := by decide +kernel
theorem dX8_goTo_20 : decode cX8_goTo 20 = .ok (.iconst 0, 1) := by decide +kernel
theorem dX8_goTo_21 : decode cX8_goTo 21 = .ok (.ireturn, 1) := by decide +kernel
theorem dX8_goTo_22 : decode cX8_goTo 22 = .ok (.aload_n 0, 1) := by decide +kernel
theorem dX8_goTo_23 : decode cX8_goTo 23 = .ok (.invokevirtual 150, 3) := by decide +kernel
theorem dX8_goTo_26 : decode cX8_goTo 26 = .ok (.aload_n 0, 1) := by decide +kernel
theorem dX8_goTo_27 : decode cX8_goTo 27 = .ok (.iconst 0, 1) := by decide +kernel
theorem dX8_goTo_28 : decode cX8_goTo 28 = .ok (.putfield 67, 3) := by decide +kernel
theorem dX8_goTo_31 : decode cX8_goTo 31 = .ok (.aload_n 0, 1) := by decide +kernel
theorem dX8_goTo_32 : decode cX8_goTo 32 = .ok (.getfield 7, 3) := by decide +kernel
theorem dX8_goTo_35 : decode cX8_goTo 35 = .ok (.iconst 1, 1) := by decide +kernel
theorem dX8_goTo_36 : decode cX8_goTo 36 = .ok (.iaload, 1) := by decide +kernel
theorem dX8_goTo_37 : decode cX8_goTo 37 = .ok (.istore_n 2, 1) := by decide +kernel
theorem dX8_goTo_38 : decode cX8_goTo 38 = .ok (.aload_n 0, 1) := by decide +kernel
theorem dX8_goTo_39 : decode cX8_goTo 39 = .ok (.getfield 7, 3) := by decide +kernel
theorem dX8_goTo_42 : decode cX8_goTo 42 = .ok (.iconst 1, 1) := by decide +kernel
theorem dX8_goTo_43 : decode cX8_goTo 43 = .ok (.iload_n 1, 1) := by decide +kernel
theorem dX8_goTo_44 : decode cX8_goTo 44 = .ok (.iastore, 1) := by decide +kernel
theorem dX8_goTo_45 : decode cX8_goTo 45 = .ok (.iload_n 2, 1) := by decide +kernel
theorem dX8_goTo_46 : decode cX8_goTo 46 = .ok (.ireturn, 1) := by decide +kernel
theorem dX8_wordOn_0 : decode cX8_wordOn 0 = .ok (.aload_n 0, 1) := by decide +kernel
theorem dX8_wordOn_1 : decode cX8_wordOn 1 = .ok (.bipush 70, 2) := by decide +kernel
theorem dX8_wordOn_3 : decode cX8_wordOn 3 = .ok (.invokevirtual 153, 3) := by decide +kernel
theorem dX8_wordOn_6 : decode cX8_wordOn 6 = .ok (.ireturn, 1) := by decide +kernel
theorem dX8_wordBack_0 : decode cX8_wordBack 0 = .ok (.aload_n 0, 1) := by decide +kernel
theorem dX8_wordBack_1 : decode cX8_wordBack 1 = .ok (.bipush 66, 2) := by decide +kernel
theorem dX8_wordBack_3 : decode cX8_wordBack 3 = .ok (.invokevirtual 153, 3) := by decide +kernel
theorem dX8_wordBack_6 : decode cX8_wordBack 6 = .ok (.ireturn, 1) := by decide +kernel
theorem dX8_lineBegin_0 : decode cX8_lineBegin 0 = .ok (.aload_n 0, 1) := by decide +kernel
theorem dX8_lineBegin_1 : decode cX8_lineBegin 1 = .ok (.bipush 97, 2) := by decide +kernel
theorem dX8_lineBegin_3 : decode cX8_lineBegin 3 = .ok (.invokevirtual 153, 3) := by decide +kernel
theorem dX8_lineBegin_6 : decode cX8_lineBegin 6 = .ok (.ireturn, 1) := by decide +kernel
theorem dX8_lineEnd_0 : decode cX8_lineEnd 0 = .ok (.aload_n 0, 1) := by decide +kernel
theorem dX8_lineEnd_1 : decode cX8_lineEnd 1 = .ok (.bipush 101, 2) := by decide +kernel
theorem dX8_lineEnd_3 : decode cX8_lineEnd 3 = .ok (.invokevirtual 153, 3) := by decide +kernel
theorem dX8_lineEnd_6 : decode cX8_lineEnd 6 = .ok (.ireturn, 1) := by decide +kernel
theorem dX8_goLines_0 : decode cX8_goLines 0 = .ok (.iload_n 1, 1) := by decide +kernel
theorem dX8_goLines_1 : decode cX8_goLines 1 = .ok (.ifCond .eq 18, 3) := by decide +kernel
theorem dX8_goLines_4 : decode cX8_goLines 4 = .ok (.iload_n 1, 1) := by decide +kernel
theorem dX8_goLines_5 : decode cX8_goLines 5 = .ok (.bipush (-50), 2) := by decide +kernel
theorem dX8_goLines_7 : decode cX8_goLines 7 = .ok (.bipush 50, 2) := by decide +kernel
theorem dX8_goLines_9 : decode cX8_goLines 9 = .ok (.invokestatic 32, 3) := by decide +kernel
theorem dX8_goLines_12 : decode cX8_goLines 12 = .ok (.ifCond .eq 7, 3) := by decide +kernel
theorem dX8_goLines_15 : decode cX8_goLines 15 = .ok (.iconst 1, 1) := by decide +kernel
theorem dX8_goLines_16 : decode cX8_goLines 16 = .ok (.goto 4, 3) := by decide +kernel
theorem dX8_goLines_19 : decode cX8_goLines 19 = .ok (.iconst 0, 1) := by decide +kernel
theorem dX8_goLines_20 : decode cX8_goLines 20 = .ok (.istore_n 2, 1) := by decide +kernel
theorem dX8_goLines_21 : decode cX8_goLines 21 = .ok (.iload_n 2, 1) := by decide +kernel
theorem dX8_goLines_22 : decode cX8_goLines 22 = .ok (.ifCond .eq 11, 3) := by decide +kernel
theorem dX8_goLines_25 : decode cX8_goLines 25 = .ok (.aload_n 0, 1) := by decide +kernel
theorem dX8_goLines_26 : decode cX8_goLines 26 = .ok (.iload_n 1, 1) := by decide +kernel
theorem dX8_goLines_27 : decode cX8_goLines 27 = .ok (.invokevirtual 156, 3) := by decide +kernel
theorem dX8_goLines_30 : decode cX8_goLines 30 = .ok (.goto 4, 3) := by decide +kernel
theorem dX8_goLines_33 : decode cX8_goLines 33 = .ok (.iconst (-1), 1) := by decide +kernel
theorem dX8_goLines_34 : decode cX8_goLines 34 = .ok (.istore_n 3, 1) := by decide +kernel
theorem dX8_goLines_35 : decode cX8_goLines 35 = .ok (.aload_n 0, 1) := by decide +kernel
theorem dX8_goLines_36 : decode cX8_goLines 36 = .ok (.iload_n 2, 1) := by decide +kernel
theorem dX8_goLines_37 : decode cX8_goLines 37 = .ok (.iload_n 3, 1) := by decide +kernel
theorem dX8_goLines_38 : decode cX8_goLines 38 = .ok (.ifCond .lt 7, 3) := by decide +kernel
theorem dX8_goLines_41 : decode cX8_goLines 41 = .ok (.iconst 1, 1) := by decide +kernel
theorem dX8_goLines_42 : decode cX8_goLines 42 = .ok (.goto 4, 3) := by decide +kernel
theorem dX8_goLines_45 : decode cX8_goLines 45 = .ok (.iconst 0, 1) := by decide +kernel
theorem dX8_goLines_46 : decode cX8_goLines 46 = .ok (.iconst 1, 1) := by decide +kernel
theorem dX8_goLines_47 : decode cX8_goLines 47 = .ok (.invokevirtual 146, 3) := by decide +kernel
theorem dX8_goLines_50 : decode cX8_goLines 50 = .ok (.ifCond .ne 5, 3) := by decide +kernel
theorem dX8_goLines_53 : decode cX8_goLines 53 = .ok (.iconst 0, 1) := by decide +kernel
theorem dX8_goLines_54 : decode cX8_goLines 54 = .ok (.ireturn, 1) := by decide +kernel
theorem dX8_goLines_55 : decode cX8_goLines 55 = .ok (.aload_n 0, 1) := by decide +kernel
theorem dX8_goLines_56 : decode cX8_goLines 56 = .ok (.invokevirtual 150, 3) := by decide +kernel
theorem dX8_goLines_59 : decode cX8_goLines 59 = .ok (.aload_n 0, 1) := by decide +kernel
theorem dX8_goLines_60 : decode cX8_goLines 60 = .ok (.iconst 0, 1) := by decide +kernel
theorem dX8_goLines_61 : decode cX8_goLines 61 = .ok (.putfield 67, 3) := by decide +kernel
theorem dX8_goLines_64 : decode cX8_goLines 64 = .ok (.aload_n 0, 1) := by decide +kernel
theorem dX8_goLines_65 : decode cX8_goLines 65 = .ok (.getfield 7, 3) := by decide +kernel
theorem dX8_goLines_68 : decode cX8_goLines 68 = .ok (.iconst 1, 1) := by decide +kernel
theorem dX8_goLines_69 : decode cX8_goLines 69 = .ok (.iload_n 3, 1) := by decide +kernel
theorem dX8_goLines_70 : decode cX8_goLines 70 = .ok (.iastore, 1) := by decide +kernel
theorem dX8_goLines_71 : decode cX8_goLines 71 = .ok (.iload_n 3, 1) := by decide +kernel
theorem dX8_goLines_72 : decode cX8_goLines 72 = .ok (.ireturn, 1) := by decide +kernel
theorem dX8_mark_0 : decode cX8_mark 0 = .ok (.aload_n 0, 1) := by decide +kernel
theorem dX8_mark_1 : decode cX8_mark 1 = .ok (.bipush 109, 2) := by decide +kernel
theorem dX8_mark_3 : decode cX8_mark 3 = .ok (.invokevirtual 153, 3) := by decide +kernel
theorem dX8_mark_6 : decode cX8_mark 6 = .ok (.ireturn, 1) := by decide +kernel
theorem dX8_exchange_0 : decode cX8_exchange 0 = .ok (.aload_n 0, 1) := by decide +kernel
theorem dX8_exchange_1 : decode cX8_exchange 1 = .ok (.bipush 120, 2) := by decide +kernel
theorem dX8_exchange_3 : decode cX8_exchange 3 = .ok (.invokevirtual 153, 3) := by decide +kernel
theorem dX8_exchange_6 : decode cX8_exchange 6 = .ok (.ireturn, 1) := by decide +kernel
theorem dX8_isFoundAt_0 : decode cX8_isFoundAt 0 = .ok (.iload_n 1, 1) := by decide +kernel
theorem dX8_isFoundAt_1 : decode cX8_isFoundAt 1 = .ok (.aload_n 0, 1) := by decide +kernel
theorem dX8_isFoundAt_2 : decode cX8_isFoundAt 2 = .ok (.getfield 159, 3) := by decide +kernel
theorem dX8_isFoundAt_5 : decode cX8_isFoundAt 5 = .ok (.iadd, 1) := by decide +kernel
theorem dX8_isFoundAt_6 : decode cX8_isFoundAt 6 = .ok (.aload_n 0, 1) := by decide +kernel
theorem dX8_isFoundAt_7 : decode cX8_isFoundAt 7 = .ok (.getfield 7, 3) := by decide +kernel
theorem dX8_isFoundAt_10 : decode cX8_isFoundAt 10 = .ok (.iconst 0, 1) := by decide +kernel
theorem dX8_isFoundAt_11 : decode cX8_isFoundAt 11 = .ok (.iaload, 1) := by decide +kernel
theorem dX8_isFoundAt_12 : decode cX8_isFoundAt 12 = .ok (.if_icmp .gt 7, 3) := by decide +kernel
theorem dX8_isFoundAt_15 : decode cX8_isFoundAt 15 = .ok (.iconst 1, 1) := by decide +kernel
theorem dX8_isFoundAt_16 : decode cX8_isFoundAt 16 = .ok (.goto 4, 3) := by decide +kernel
theorem dX8_isFoundAt_19 : decode cX8_isFoundAt 19 = .ok (.iconst 0, 1) := by decide +kernel
theorem dX8_isFoundAt_20 : decode cX8_isFoundAt 20 = .ok (.istore_n 2, 1) := by decide +kernel
theorem dX8_isFoundAt_21 : decode cX8_isFoundAt 21 = .ok (.iconst 0, 1) := by decide +kernel
theorem dX8_isFoundAt_22 : decode cX8_isFoundAt 22 = .ok (.istore_n 3, 1) := by decide +kernel
theorem dX8_isFoundAt_23 : decode cX8_isFoundAt 23 = .ok (.iload_n 3, 1) := by decide +kernel
theorem dX8_isFoundAt_24 : decode cX8_isFoundAt 24 = .ok (.aload_n 0, 1) := by decide +kernel
theorem dX8_isFoundAt_25 : decode cX8_isFoundAt 25 = .ok (.getfield 159, 3) := by decide +kernel
theorem dX8_isFoundAt_28 : decode cX8_isFoundAt 28 = .ok (.if_icmp .ge 35, 3) := by decide +kernel
theorem dX8_isFoundAt_31 : decode cX8_isFoundAt 31 = .ok (.iload_n 2, 1) := by decide +kernel
theorem dX8_isFoundAt_32 : decode cX8_isFoundAt 32 = .ok (.ifCond .eq 31, 3) := by decide +kernel
theorem dX8_isFoundAt_35 : decode cX8_isFoundAt 35 = .ok (.aload_n 0, 1) := by decide +kernel
theorem dX8_isFoundAt_36 : decode cX8_isFoundAt 36 = .ok (.iload_n 1, 1) := by decide +kernel
theorem dX8_isFoundAt_37 : decode cX8_isFoundAt 37 = .ok (.iload_n 3, 1) := by decide +kernel
theorem dX8_isFoundAt_38 : decode cX8_isFoundAt 38 = .ok (.iadd, 1) := by decide +kernel
theorem dX8_isFoundAt_39 : decode cX8_isFoundAt 39 = .ok (.invokevirtual 36, 3) := by decide +kernel
theorem dX8_isFoundAt_42 : decode cX8_isFoundAt 42 = .ok (.aload_n 0, 1) := by decide +kernel
theorem dX8_isFoundAt_43 : decode cX8_isFoundAt 43 = .ok (.getfield 17, 3) := by decide +kernel
theorem dX8_isFoundAt_46 : decode cX8_isFoundAt 46 = .ok (.iload_n 3, 1) := by decide +kernel
theorem dX8_isFoundAt_47 : decode cX8_isFoundAt 47 = .ok (.caload, 1) := by decide +kernel
theorem dX8_isFoundAt_48 : decode cX8_isFoundAt 48 = .ok (.if_icmp .ne 7, 3) := by decide +kernel
theorem dX8_isFoundAt_51 : decode cX8_isFoundAt 51 = .ok (.iconst 1, 1) := by decide +kernel
theorem dX8_isFoundAt_52 : decode cX8_isFoundAt 52 = .ok (.goto 4, 3) := by decide +kernel
theorem dX8_isFoundAt_55 : decode cX8_isFoundAt 55 = .ok (.iconst 0, 1) := by decide +kernel
theorem dX8_isFoundAt_56 : decode cX8_isFoundAt 56 = .ok (.istore_n 2, 1) := by decide +kernel
theorem dX8_isFoundAt_57 : decode cX8_isFoundAt 57 = .ok (.iinc 3 1, 3) := by decide +kernel
theorem dX8_isFoundAt_60 : decode cX8_isFoundAt 60 = .ok (.goto (-37), 3) := by decide +kernel
theorem dX8_isFoundAt_63 : decode cX8_isFoundAt 63 = .ok (.iload_n 2, 1) := by decide +kernel
theorem dX8_isFoundAt_64 : decode cX8_isFoundAt 64 = .ok (.ireturn, 1) := by decide +kernel
theorem dX8_find_0 : decode cX8_find 0 = .ok (.aload_n 0, 1) := by decide +kernel
theorem dX8_find_1 : decode cX8_find 1 = .ok (.getfield 7, 3) := by decide +kernel
theorem dX8_find_4 : decode cX8_find 4 = .ok (.iconst 1, 1) := by decide +kernel
theorem dX8_find_5 : decode cX8_find 5 = .ok (.iaload, 1) := by decide +kernel
theorem dX8_find_6 : decode cX8_find 6 = .ok (.istore_n 1, 1) := by decide +kernel
theorem dX8_find_7 : decode cX8_find 7 = .ok (.iload_n 1, 1) := by decide +kernel
theorem dX8_find_8 : decode cX8_find 8 = .ok (.aload_n 0, 1) := by decide +kernel
theorem dX8_find_9 : decode cX8_find 9 = .ok (.getfield 7, 3) := by decide +kernel
theorem dX8_find_12 : decode cX8_find 12 = .ok (.iconst 0, 1) := by decide +kernel
theorem dX8_find_13 : decode cX8_find 13 = .ok (.iaload, 1) := by decide +kernel
theorem dX8_find_14 : decode cX8_find 14 = .ok (.if_icmp .gt 17, 3) := by decide +kernel
theorem dX8_find_17 : decode cX8_find 17 = .ok (.aload_n 0, 1) := by decide +kernel
theorem dX8_find_18 : decode cX8_find 18 = .ok (.iload_n 1, 1) := by decide +kernel
theorem dX8_find_19 : decode cX8_find 19 = .ok (.invokevirtual 162, 3) := by decide +kernel
theorem dX8_find_22 : decode cX8_find 22 = .ok (.ifCond .ne 9, 3) := by decide +kernel
theorem dX8_find_25 : decode cX8_find 25 = .ok (.iinc 1 1, 3) := by decide +kernel
theorem dX8_find_28 : decode cX8_find 28 = .ok (.goto (-21), 3) := by decide +kernel
theorem dX8_find_31 : decode cX8_find 31 = .ok (.aload_n 0, 1) := by decide +kernel
theorem dX8_find_32 : decode cX8_find 32 = .ok (.aload_n 0, 1) := by decide +kernel
theorem dX8_find_33 : decode cX8_find 33 = .ok (.getfield 159, 3) := by decide +kernel
theorem dX8_find_36 : decode cX8_find 36 = .ok (.ifCond .le 7, 3) := by decide +kernel
theorem dX8_find_39 : decode cX8_find 39 = .ok (.iconst 1, 1) := by decide +kernel
theorem dX8_find_40 : decode cX8_find 40 = .ok (.goto 4, 3) := by decide +kernel
theorem dX8_find_43 : decode cX8_find 43 = .ok (.iconst 0, 1) := by decide +kernel
theorem dX8_find_44 : decode cX8_find 44 = .ok (.iload_n 1, 1) := by decide +kernel
theorem dX8_find_45 : decode cX8_find 45 = .ok (.aload_n 0, 1) := by decide +kernel
theorem dX8_find_46 : decode cX8_find 46 = .ok (.getfield 7, 3) := by decide +kernel
theorem dX8_find_49 : decode cX8_find 49 = .ok (.iconst 0, 1) := by decide +kernel
theorem dX8_find_50 : decode cX8_find 50 = .ok (.iaload, 1) := by decide +kernel
theorem dX8_find_51 : decode cX8_find 51 = .ok (.if_icmp .gt 7, 3) := by decide +kernel
theorem dX8_find_54 : decode cX8_find 54 = .ok (.iconst 1, 1) := by decide +kernel
theorem dX8_find_55 : decode cX8_find 55 = .ok (.goto 4, 3) := by decide +kernel
theorem dX8_find_58 : decode cX8_find 58 = .ok (.iconst 0, 1) := by decide +kernel
theorem dX8_find_59 : decode cX8_find 59 = .ok (.iconst 1, 1) := by decide +kernel
theorem dX8_find_60 : decode cX8_find 60 = .ok (.invokevirtual 146, 3) := by decide +kernel
theorem dX8_find_63 : decode cX8_find 63 = .ok (.ifCond .ne 5, 3) := by decide +kernel
theorem dX8_find_66 : decode cX8_find 66 = .ok (.iconst 0, 1) := by decide +kernel
theorem dX8_find_67 : decode cX8_find 67 = .ok (.ireturn, 1) := by decide +kernel
theorem dX8_find_68 : decode cX8_find 68 = .ok (.aload_n 0, 1) := by decide +kernel
theorem dX8_find_69 : decode cX8_find 69 = .ok (.invokevirtual 150, 3) := by decide +kernel
theorem dX8_find_72 : decode cX8_find 72 = .ok (.aload_n 0, 1) := by decide +kernel
theorem dX8_find_73 : decode cX8_find 73 = .ok (.iconst 0, 1) := by decide +kernel
theorem dX8_find_74 : decode cX8_find 74 = .ok (.putfield 67, 3) := by decide +kernel
theorem dX8_find_77 : decode cX8_find 77 = .ok (.aload_n 0, 1) := by decide +kernel
theorem dX8_find_78 : decode cX8_find 78 = .ok (.getfield 7, 3) := by decide +kernel
theorem dX8_find_81 : decode cX8_find 81 = .ok (.iconst 1, 1) := by decide +kernel
theorem dX8_find_82 : decode cX8_find 82 = .ok (.iload_n 1, 1) := by decide +kernel
theorem dX8_find_83 : decode cX8_find 83 = .ok (.iastore, 1) := by decide +kernel
theorem dX8_find_84 : decode cX8_find 84 = .ok (.iload_n 1, 1) := by decide +kernel
theorem dX8_find_85 : decode cX8_find 85 = .ok (.ireturn, 1) := by decide +kernel
theorem dX8_killWord_0 : decode cX8_killWord 0 = .ok (.aload_n 0, 1) := by decide +kernel
theorem dX8_killWord_1 : decode cX8_killWord 1 = .ok (.bipush 119, 2) := by decide +kernel
theorem dX8_killWord_3 : decode cX8_killWord 3 = .ok (.invokevirtual 153, 3) := by decide +kernel
theorem dX8_killWord_6 : decode cX8_killWord 6 = .ok (.ireturn, 1) := by decide +kernel
theorem dX8_killBack_0 : decode cX8_killBack 0 = .ok (.aload_n 0, 1) := by decide +kernel
theorem dX8_killBack_1 : decode cX8_killBack 1 = .ok (.bipush 87, 2) := by decide +kernel
theorem dX8_killBack_3 : decode cX8_killBack 3 = .ok (.invokevirtual 153, 3) := by decide +kernel
theorem dX8_killBack_6 : decode cX8_killBack 6 = .ok (.ireturn, 1) := by decide +kernel
theorem dX8_killLine_0 : decode cX8_killLine 0 = .ok (.aload_n 0, 1) := by decide +kernel
theorem dX8_killLine_1 : decode cX8_killLine 1 = .ok (.bipush 107, 2) := by decide +kernel
theorem dX8_killLine_3 : decode cX8_killLine 3 = .ok (.invokevirtual 153, 3) := by decide +kernel
theorem dX8_killLine_6 : decode cX8_killLine 6 = .ok (.ireturn, 1) := by decide +kernel
theorem dX8_killBetween_0 : decode cX8_killBetween 0 = .ok (.aload_n 0, 1) := by decide +kernel
theorem dX8_killBetween_1 : decode cX8_killBetween 1 = .ok (.bipush 114, 2) := by decide +kernel
theorem dX8_killBetween_3 : decode cX8_killBetween 3 = .ok (.invokevirtual 153, 3) := by decide +kernel
theorem dX8_killBetween_6 : decode cX8_killBetween 6 = .ok (.ireturn, 1) := by decide +kernel
theorem dX8_copyBetween_0 : decode cX8_copyBetween 0 = .ok (.aload_n 0, 1) := by decide +kernel
theorem dX8_copyBetween_1 : decode cX8_copyBetween 1 = .ok (.bipush 99, 2) := by decide +kernel
theorem dX8_copyBetween_3 : decode cX8_copyBetween 3 = .ok (.invokevirtual 153, 3) := by decide +kernel
theorem dX8_copyBetween_6 : decode cX8_copyBetween 6 = .ok (.ireturn, 1) := by decide +kernel
theorem dX8_yank_0 : decode cX8_yank 0 = .ok (.aload_n 0, 1) := by decide +kernel
theorem dX8_yank_1 : decode cX8_yank 1 = .ok (.bipush 121, 2) := by decide +kernel
theorem dX8_yank_3 : decode cX8_yank 3 = .ok (.invokevirtual 153, 3) := by decide +kernel
theorem dX8_yank_6 : decode cX8_yank 6 = .ok (.ireturn, 1) := by decide +kernel
theorem dX8_yankOther_0 : decode cX8_yankOther 0 = .ok (.aload_n 0, 1) := by decide +kernel
theorem dX8_yankOther_1 : decode cX8_yankOther 1 = .ok (.bipush 112, 2) := by decide +kernel
theorem dX8_yankOther_3 : decode cX8_yankOther 3 = .ok (.invokevirtual 153, 3) := by decide +kernel
theorem dX8_yankOther_6 : decode cX8_yankOther 6 = .ok (.ireturn, 1) := by decide +kernel
theorem dX8_turn_0 : decode cX8_turn 0 = .ok (.iload_n 1, 1) := by decide +kernel
theorem dX8_turn_1 : decode cX8_turn 1 = .ok (.bipush (-20), 2) := by decide +kernel
theorem dX8_turn_3 : decode cX8_turn 3 = .ok (.bipush 20, 2) := by decide +kernel
theorem dX8_turn_5 : decode cX8_turn 5 = .ok (.invokestatic 32, 3) := by decide +kernel
theorem dX8_turn_8 : decode cX8_turn 8 = .ok (.istore_n 2, 1) := by decide +kernel
theorem dX8_turn_9 : decode cX8_turn 9 = .ok (.aload_n 0, 1) := by decide +kernel
theorem dX8_turn_10 : decode cX8_turn 10 = .ok (.iload_n 2, 1) := by decide +kernel
theorem dX8_turn_11 : decode cX8_turn 11 = .ok (.aload_n 0, 1) := by decide +kernel
theorem dX8_turn_12 : decode cX8_turn 12 = .ok (.getfield 7, 3) := by decide +kernel
theorem dX8_turn_15 : decode cX8_turn 15 = .ok (.iconst 3, 1) := by decide +kernel
theorem dX8_turn_16 : decode cX8_turn 16 = .ok (.iaload, 1) := by decide +kernel
theorem dX8_turn_17 : decode cX8_turn 17 = .ok (.ifCond .le 7, 3) := by decide +kernel
theorem dX8_turn_20 : decode cX8_turn 20 = .ok (.iconst 1, 1) := by decide +kernel
theorem dX8_turn_21 : decode cX8_turn 21 = .ok (.goto 4, 3) := by decide +kernel
theorem dX8_turn_24 : decode cX8_turn 24 = .ok (.iconst 0, 1) := by decide +kernel
theorem dX8_turn_25 : decode cX8_turn 25 = .ok (.iconst 1, 1) := by decide +kernel
theorem dX8_turn_26 : decode cX8_turn 26 = .ok (.invokevirtual 146, 3) := by decide +kernel
theorem dX8_turn_29 : decode cX8_turn 29 = .ok (.ifCond .ne 5, 3) := by decide +kernel
theorem dX8_turn_32 : decode cX8_turn 32 = .ok (.iconst 0, 1) := by decide +kernel
theorem dX8_turn_33 : decode cX8_turn 33 = .ok (.ireturn, 1) := by decide +kernel
theorem dX8_turn_34 : decode cX8_turn 34 = .ok (.aload_n 0, 1) := by decide +kernel
theorem dX8_turn_35 : decode cX8_turn 35 = .ok (.invokevirtual 150, 3) := by decide +kernel
theorem dX8_turn_38 : decode cX8_turn 38 = .ok (.aload_n 0, 1) := by decide +kernel
theorem dX8_turn_39 : decode cX8_turn 39 = .ok (.iconst 0, 1) := by decide +kernel
theorem dX8_turn_40 : decode cX8_turn 40 = .ok (.putfield 67, 3) := by decide +kernel
theorem dX8_turn_43 : decode cX8_turn 43 = .ok (.aload_n 0, 1) := by decide +kernel
theorem dX8_turn_44 : decode cX8_turn 44 = .ok (.iload_n 1, 1) := by decide +kernel
theorem dX8_turn_45 : decode cX8_turn 45 = .ok (.invokevirtual 88, 3) := by decide +kernel
theorem dX8_turn_48 : decode cX8_turn 48 = .ok (.ireturn, 1) := by decide +kernel
theorem dX8_changeCaves_0 : decode cX8_changeCaves 0 = .ok (.aload_n 0, 1) := by decide +kernel
theorem dX8_changeCaves_1 : decode cX8_changeCaves 1 = .ok (.iload_n 1, 1) := by decide +kernel
theorem dX8_changeCaves_2 : decode cX8_changeCaves 2 = .ok (.iconst 1, 1) := by decide +kernel
theorem dX8_changeCaves_3 : decode cX8_changeCaves 3 = .ok (.bipush 8, 2) := by decide +kernel
theorem dX8_changeCaves_5 : decode cX8_changeCaves 5 = .ok (.invokestatic 32, 3) := by decide +kernel
theorem dX8_changeCaves_8 : decode cX8_changeCaves 8 = .ok (.iconst 1, 1) := by decide +kernel
theorem dX8_changeCaves_9 : decode cX8_changeCaves 9 = .ok (.iconst 1, 1) := by decide +kernel
theorem dX8_changeCaves_10 : decode cX8_changeCaves 10 = .ok (.invokevirtual 146, 3) := by decide +kernel
theorem dX8_changeCaves_13 : decode cX8_changeCaves 13 = .ok (.ifCond .ne 5, 3) := by decide +kernel
theorem dX8_changeCaves_16 : decode cX8_changeCaves 16 = .ok (.iconst 0, 1) := by decide +kernel
theorem dX8_changeCaves_17 : decode cX8_changeCaves 17 = .ok (.ireturn, 1) := by decide +kernel
theorem dX8_changeCaves_18 : decode cX8_changeCaves 18 = .ok (.aload_n 0, 1) := by decide +kernel
theorem dX8_changeCaves_19 : decode cX8_changeCaves 19 = .ok (.invokevirtual 150, 3) := by decide +kernel
theorem dX8_changeCaves_22 : decode cX8_changeCaves 22 = .ok (.aload_n 0, 1) := by decide +kernel
theorem dX8_changeCaves_23 : decode cX8_changeCaves 23 = .ok (.iconst 0, 1) := by decide +kernel
theorem dX8_changeCaves_24 : decode cX8_changeCaves 24 = .ok (.putfield 67, 3) := by decide +kernel
theorem dX8_changeCaves_27 : decode cX8_changeCaves 27 = .ok (.aload_n 0, 1) := by decide +kernel
theorem dX8_changeCaves_28 : decode cX8_changeCaves 28 = .ok (.getfield 7, 3) := by decide +kernel
theorem dX8_changeCaves_31 : decode cX8_changeCaves 31 = .ok (.iconst 5, 1) := by decide +kernel
theorem dX8_changeCaves_32 : decode cX8_changeCaves 32 = .ok (.iaload, 1) := by decide +kernel
theorem dX8_changeCaves_33 : decode cX8_changeCaves 33 = .ok (.istore_n 2, 1) := by decide +kernel
theorem dX8_changeCaves_34 : decode cX8_changeCaves 34 = .ok (.aload_n 0, 1) := by decide +kernel
theorem dX8_changeCaves_35 : decode cX8_changeCaves 35 = .ok (.getfield 7, 3) := by decide +kernel
theorem dX8_changeCaves_38 : decode cX8_changeCaves 38 = .ok (.iconst 5, 1) := by decide +kernel
theorem dX8_changeCaves_39 : decode cX8_changeCaves 39 = .ok (.iload_n 1, 1) := by decide +kernel
theorem dX8_changeCaves_40 : decode cX8_changeCaves 40 = .ok (.iastore, 1) := by decide +kernel
theorem dX8_changeCaves_41 : decode cX8_changeCaves 41 = .ok (.aload_n 0, 1) := by decide +kernel
theorem dX8_changeCaves_42 : decode cX8_changeCaves 42 = .ok (.getfield 7, 3) := by decide +kernel
theorem dX8_changeCaves_45 : decode cX8_changeCaves 45 = .ok (.iconst 3, 1) := by decide +kernel
theorem dX8_changeCaves_46 : decode cX8_changeCaves 46 = .ok (.iaload, 1) := by decide +kernel
theorem dX8_changeCaves_47 : decode cX8_changeCaves 47 = .ok (.iload_n 1, 1) := by decide +kernel
theorem dX8_changeCaves_48 : decode cX8_changeCaves 48 = .ok (.if_icmp .le 54, 3) := by decide +kernel
theorem dX8_changeCaves_51 : decode cX8_changeCaves 51 = .ok (.aload_n 0, 1) := by decide +kernel
theorem dX8_changeCaves_52 : decode cX8_changeCaves 52 = .ok (.getfield 7, 3) := by decide +kernel
theorem dX8_changeCaves_55 : decode cX8_changeCaves 55 = .ok (.bipush 9, 2) := by decide +kernel
theorem dX8_changeCaves_57 : decode cX8_changeCaves 57 = .ok (.dup2, 1) := by decide +kernel
theorem dX8_changeCaves_58 : decode cX8_changeCaves 58 = .ok (.iaload, 1) := by decide +kernel
theorem dX8_changeCaves_59 : decode cX8_changeCaves 59 = .ok (.aload_n 0, 1) := by decide +kernel
theorem dX8_changeCaves_60 : decode cX8_changeCaves 60 = .ok (.getfield 7, 3) := by decide +kernel
theorem dX8_changeCaves_63 : decode cX8_changeCaves 63 = .ok (.iconst 3, 1) := by decide +kernel
theorem dX8_changeCaves_64 : decode cX8_changeCaves 64 = .ok (.iaload, 1) := by decide +kernel
theorem dX8_changeCaves_65 : decode cX8_changeCaves 65 = .ok (.iload_n 1, 1) := by decide +kernel
theorem dX8_changeCaves_66 : decode cX8_changeCaves 66 = .ok (.isub, 1) := by decide +kernel
theorem dX8_changeCaves_67 : decode cX8_changeCaves 67 = .ok (.iadd, 1) := by decide +kernel
theorem dX8_changeCaves_68 : decode cX8_changeCaves 68 = .ok (.iastore, 1) := by decide +kernel
theorem dX8_changeCaves_69 : decode cX8_changeCaves 69 = .ok (.aload_n 0, 1) := by decide +kernel
theorem dX8_changeCaves_70 : decode cX8_changeCaves 70 = .ok (.getfield 7, 3) := by decide +kernel
theorem dX8_changeCaves_73 : decode cX8_changeCaves 73 = .ok (.iconst 3, 1) := by decide +kernel
theorem dX8_changeCaves_74 : decode cX8_changeCaves 74 = .ok (.iload_n 1, 1) := by decide +kernel
theorem dX8_changeCaves_75 : decode cX8_changeCaves 75 = .ok (.iastore, 1) := by decide +kernel
theorem dX8_changeCaves_76 : decode cX8_changeCaves 76 = .ok (.aload_n 0, 1) := by decide +kernel
theorem dX8_changeCaves_77 : decode cX8_changeCaves 77 = .ok (.getfield 7, 3) := by decide +kernel
theorem dX8_changeCaves_80 : decode cX8_changeCaves 80 = .ok (.iconst 4, 1) := by decide +kernel
theorem dX8_changeCaves_81 : decode cX8_changeCaves 81 = .ok (.aload_n 0, 1) := by decide +kernel
theorem dX8_changeCaves_82 : decode cX8_changeCaves 82 = .ok (.getfield 7, 3) := by decide +kernel
theorem dX8_changeCaves_85 : decode cX8_changeCaves 85 = .ok (.iconst 4, 1) := by decide +kernel
theorem dX8_changeCaves_86 : decode cX8_changeCaves 86 = .ok (.iaload, 1) := by decide +kernel
theorem dX8_changeCaves_87 : decode cX8_changeCaves 87 = .ok (.iload_n 1, 1) := by decide +kernel
theorem dX8_changeCaves_88 : decode cX8_changeCaves 88 = .ok (.if_icmp .ge 12, 3) := by decide +kernel
theorem dX8_changeCaves_91 : decode cX8_changeCaves 91 = .ok (.aload_n 0, 1) := by decide +kernel
theorem dX8_changeCaves_92 : decode cX8_changeCaves 92 = .ok (.getfield 7, 3) := by decide +kernel
theorem dX8_changeCaves_95 : decode cX8_changeCaves 95 = .ok (.iconst 4, 1) := by decide +kernel
theorem dX8_changeCaves_96 : decode cX8_changeCaves 96 = .ok (.iaload, 1) := by decide +kernel
theorem dX8_changeCaves_97 : decode cX8_changeCaves 97 = .ok (.goto 4, 3) := by decide +kernel
theorem dX8_changeCaves_100 : decode cX8_changeCaves 100 = .ok (.iconst 0, 1) := by decide +kernel
theorem dX8_changeCaves_101 : decode cX8_changeCaves 101 = .ok (.iastore, 1) := by decide +kernel
theorem dX8_changeCaves_102 : decode cX8_changeCaves 102 = .ok (.iload_n 2, 1) := by decide +kernel
theorem dX8_changeCaves_103 : decode cX8_changeCaves 103 = .ok (.ireturn, 1) := by decide +kernel
theorem dX8_append_0 : decode cX8_append 0 = .ok (.aload_n 0, 1) := by decide +kernel
theorem dX8_append_1 : decode cX8_append 1 = .ok (.iload_n 1, 1) := by decide +kernel
theorem dX8_append_2 : decode cX8_append 2 = .ok (.bipush 33, 2) := by decide +kernel
theorem dX8_append_4 : decode cX8_append 4 = .ok (.bipush 126, 2) := by decide +kernel
theorem dX8_append_6 : decode cX8_append 6 = .ok (.invokestatic 32, 3) := by decide +kernel
theorem dX8_append_9 : decode cX8_append 9 = .ok (.aload_n 0, 1) := by decide +kernel
theorem dX8_append_10 : decode cX8_append 10 = .ok (.getfield 159, 3) := by decide +kernel
theorem dX8_append_13 : decode cX8_append 13 = .ok (.bipush 60, 2) := by decide +kernel
theorem dX8_append_15 : decode cX8_append 15 = .ok (.if_icmp .ge 7, 3) := by decide +kernel
theorem dX8_append_18 : decode cX8_append 18 = .ok (.iconst 1, 1) := by decide +kernel
theorem dX8_append_19 : decode cX8_append 19 = .ok (.goto 4, 3) := by decide +kernel
theorem dX8_append_22 : decode cX8_append 22 = .ok (.iconst 0, 1) := by decide +kernel
theorem dX8_append_23 : decode cX8_append 23 = .ok (.iconst 1, 1) := by decide +kernel
theorem dX8_append_24 : decode cX8_append 24 = .ok (.invokevirtual 146, 3) := by decide +kernel
theorem dX8_append_27 : decode cX8_append 27 = .ok (.ifCond .ne 5, 3) := by decide +kernel
theorem dX8_append_30 : decode cX8_append 30 = .ok (.iconst 0, 1) := by decide +kernel
theorem dX8_append_31 : decode cX8_append 31 = .ok (.ireturn, 1) := by decide +kernel
theorem dX8_append_32 : decode cX8_append 32 = .ok (.aload_n 0, 1) := by decide +kernel
theorem dX8_append_33 : decode cX8_append 33 = .ok (.getfield 17, 3) := by decide +kernel
theorem dX8_append_36 : decode cX8_append 36 = .ok (.aload_n 0, 1) := by decide +kernel
theorem dX8_append_37 : decode cX8_append 37 = .ok (.getfield 159, 3) := by decide +kernel
theorem dX8_append_40 : decode cX8_append 40 = .ok (.iload_n 1, 1) := by decide +kernel
theorem dX8_append_41 : decode cX8_append 41 = .ok (.i2c, 1) := by decide +kernel
theorem dX8_append_42 : decode cX8_append 42 = .ok (.castore, 1) := by decide +kernel
theorem dX8_append_43 : decode cX8_append 43 = .ok (.aload_n 0, 1) := by decide +kernel
theorem dX8_append_44 : decode cX8_append 44 = .ok (.dup, 1) := by decide +kernel
theorem dX8_append_45 : decode cX8_append 45 = .ok (.getfield 159, 3) := by decide +kernel
theorem dX8_append_48 : decode cX8_append 48 = .ok (.iconst 1, 1) := by decide +kernel
theorem dX8_append_49 : decode cX8_append 49 = .ok (.iadd, 1) := by decide +kernel
theorem dX8_append_50 : decode cX8_append 50 = .ok (.putfield 159, 3) := by decide +kernel
theorem dX8_append_53 : decode cX8_append 53 = .ok (.aload_n 0, 1) := by decide +kernel
theorem dX8_append_54 : decode cX8_append 54 = .ok (.getfield 159, 3) := by decide +kernel
theorem dX8_append_57 : decode cX8_append 57 = .ok (.ireturn, 1) := by decide +kernel
theorem dX8_clearBuffer_0 : decode cX8_clearBuffer 0 = .ok (.aload_n 0, 1) := by decide +kernel
theorem dX8_clearBuffer_1 : decode cX8_clearBuffer 1 = .ok (.iconst 0, 1) := by decide +kernel
theorem dX8_clearBuffer_2 : decode cX8_clearBuffer 2 = .ok (.putfield 21, 3) := by decide +kernel
theorem dX8_clearBuffer_5 : decode cX8_clearBuffer 5 = .ok (.aload_n 0, 1) := by decide +kernel
theorem dX8_clearBuffer_6 : decode cX8_clearBuffer 6 = .ok (.getfield 159, 3) := by decide +kernel
theorem dX8_clearBuffer_9 : decode cX8_clearBuffer 9 = .ok (.istore_n 1, 1) := by decide +kernel
theorem dX8_clearBuffer_10 : decode cX8_clearBuffer 10 = .ok (.aload_n 0, 1) := by decide +kernel
theorem dX8_clearBuffer_11 : decode cX8_clearBuffer 11 = .ok (.iconst 0, 1) := by decide +kernel
theorem dX8_clearBuffer_12 : decode cX8_clearBuffer 12 = .ok (.putfield 159, 3) := by decide +kernel
theorem dX8_clearBuffer_15 : decode cX8_clearBuffer 15 = .ok (.iload_n 1, 1) := by decide +kernel
theorem dX8_clearBuffer_16 : decode cX8_clearBuffer 16 = .ok (.ireturn, 1) := by decide +kernel
theorem dX8_isSign_0 : decode cX8_isSign 0 = .ok (.iload_n 0, 1) := by decide +kernel
theorem dX8_isSign_1 : decode cX8_isSign 1 = .ok (.bipush 97, 2) := by decide +kernel
theorem dX8_isSign_3 : decode cX8_isSign 3 = .ok (.bipush 99, 2) := by decide +kernel
theorem dX8_isSign_5 : decode cX8_isSign 5 = .ok (.invokestatic 32, 3) := by decide +kernel
theorem dX8_isSign_8 : decode cX8_isSign 8 = .ok (.ifCond .ne 83, 3) := by decide +kernel
theorem dX8_isSign_11 : decode cX8_isSign 11 = .ok (.iload_n 0, 1) := by decide +kernel
theorem dX8_isSign_12 : decode cX8_isSign 12 = .ok (.bipush 101, 2) := by decide +kernel
theorem dX8_isSign_14 : decode cX8_isSign 14 = .ok (.bipush 103, 2) := by decide +kernel
theorem dX8_isSign_16 : decode cX8_isSign 16 = .ok (.invokestatic 32, 3) := by decide +kernel
theorem dX8_isSign_19 : decode cX8_isSign 19 = .ok (.ifCond .ne 72, 3) := by decide +kernel
theorem dX8_isSign_22 : decode cX8_isSign 22 = .ok (.iload_n 0, 1) := by decide +kernel
theorem dX8_isSign_23 : decode cX8_isSign 23 = .ok (.bipush 107, 2) := by decide +kernel
theorem dX8_isSign_25 : decode cX8_isSign 25 = .ok (.if_icmp .eq 66, 3) := by decide +kernel
theorem dX8_isSign_28 : decode cX8_isSign 28 = .ok (.iload_n 0, 1) := by decide +kernel
theorem dX8_isSign_29 : decode cX8_isSign 29 = .ok (.bipush 109, 2) := by decide +kernel
theorem dX8_isSign_31 : decode cX8_isSign 31 = .ok (.bipush 110, 2) := by decide +kernel
theorem dX8_isSign_33 : decode cX8_isSign 33 = .ok (.invokestatic 32, 3) := by decide +kernel
theorem dX8_isSign_36 : decode cX8_isSign 36 = .ok (.ifCond .ne 55, 3) := by decide +kernel
theorem dX8_isSign_39 : decode cX8_isSign 39 = .ok (.iload_n 0, 1) := by decide +kernel
theorem dX8_isSign_40 : decode cX8_isSign 40 = .ok (.bipush 112, 2) := by decide +kernel
theorem dX8_isSign_42 : decode cX8_isSign 42 = .ok (.if_icmp .eq 49, 3) := by decide +kernel
theorem dX8_isSign_45 : decode cX8_isSign 45 = .ok (.iload_n 0, 1) := by decide +kernel
theorem dX8_isSign_46 : decode cX8_isSign 46 = .ok (.bipush 114, 2) := by decide +kernel
theorem dX8_isSign_48 : decode cX8_isSign 48 = .ok (.bipush 117, 2) := by decide +kernel
theorem dX8_isSign_50 : decode cX8_isSign 50 = .ok (.invokestatic 32, 3) := by decide +kernel
theorem dX8_isSign_53 : decode cX8_isSign 53 = .ok (.ifCond .ne 38, 3) := by decide +kernel
theorem dX8_isSign_56 : decode cX8_isSign 56 = .ok (.iload_n 0, 1) := by decide +kernel
theorem dX8_isSign_57 : decode cX8_isSign 57 = .ok (.bipush 119, 2) := by decide +kernel
theorem dX8_isSign_59 : decode cX8_isSign 59 = .ok (.bipush 121, 2) := by decide +kernel
theorem dX8_isSign_61 : decode cX8_isSign 61 = .ok (.invokestatic 32, 3) := by decide +kernel
theorem dX8_isSign_64 : decode cX8_isSign 64 = .ok (.ifCond .ne 27, 3) := by decide +kernel
theorem dX8_isSign_67 : decode cX8_isSign 67 = .ok (.iload_n 0, 1) := by decide +kernel
theorem dX8_isSign_68 : decode cX8_isSign 68 = .ok (.bipush 70, 2) := by decide +kernel
theorem dX8_isSign_70 : decode cX8_isSign 70 = .ok (.if_icmp .eq 21, 3) := by decide +kernel
theorem dX8_isSign_73 : decode cX8_isSign 73 = .ok (.iload_n 0, 1) := by decide +kernel
theorem dX8_isSign_74 : decode cX8_isSign 74 = .ok (.bipush 66, 2) := by decide +kernel
theorem dX8_isSign_76 : decode cX8_isSign 76 = .ok (.if_icmp .eq 15, 3) := by decide +kernel
theorem dX8_isSign_79 : decode cX8_isSign 79 = .ok (.iload_n 0, 1) := by decide +kernel
theorem dX8_isSign_80 : decode cX8_isSign 80 = .ok (.bipush 87, 2) := by decide +kernel
theorem dX8_isSign_82 : decode cX8_isSign 82 = .ok (.if_icmp .eq 9, 3) := by decide +kernel
theorem dX8_isSign_85 : decode cX8_isSign 85 = .ok (.iload_n 0, 1) := by decide +kernel
theorem dX8_isSign_86 : decode cX8_isSign 86 = .ok (.bipush 95, 2) := by decide +kernel
theorem dX8_isSign_88 : decode cX8_isSign 88 = .ok (.if_icmp .ne 7, 3) := by decide +kernel
theorem dX8_isSign_91 : decode cX8_isSign 91 = .ok (.iconst 1, 1) := by decide +kernel
theorem dX8_isSign_92 : decode cX8_isSign 92 = .ok (.goto 4, 3) := by decide +kernel
theorem dX8_isSign_95 : decode cX8_isSign 95 = .ok (.iconst 0, 1) := by decide +kernel
theorem dX8_isSign_96 : decode cX8_isSign 96 = .ok (.ireturn, 1) := by decide +kernel
theorem dX8_part_0 : decode cX8_part 0 = .ok (.aload_n 0, 1) := by decide +kernel
theorem dX8_part_1 : decode cX8_part 1 = .ok (.aload_n 0, 1) := by decide +kernel
theorem dX8_part_2 : decode cX8_part 2 = .ok (.getfield 165, 3) := by decide +kernel
theorem dX8_part_5 : decode cX8_part 5 = .ok (.aload_n 0, 1) := by decide +kernel
theorem dX8_part_6 : decode cX8_part 6 = .ok (.getfield 159, 3) := by decide +kernel
theorem dX8_part_9 : decode cX8_part 9 = .ok (.if_icmp .ge 37, 3) := by decide +kernel
theorem dX8_part_12 : decode cX8_part 12 = .ok (.aload_n 0, 1) := by decide +kernel
theorem dX8_part_13 : decode cX8_part 13 = .ok (.getfield 17, 3) := by decide +kernel
theorem dX8_part_16 : decode cX8_part 16 = .ok (.aload_n 0, 1) := by decide +kernel
theorem dX8_part_17 : decode cX8_part 17 = .ok (.getfield 165, 3) := by decide +kernel
theorem dX8_part_20 : decode cX8_part 20 = .ok (.caload, 1) := by decide +kernel
theorem dX8_part_21 : decode cX8_part 21 = .ok (.bipush 50, 2) := by decide +kernel
theorem dX8_part_23 : decode cX8_part 23 = .ok (.bipush 57, 2) := by decide +kernel
theorem dX8_part_25 : decode cX8_part 25 = .ok (.invokestatic 32, 3) := by decide +kernel
theorem dX8_part_28 : decode cX8_part 28 = .ok (.ifCond .eq 18, 3) := by decide +kernel
theorem dX8_part_31 : decode cX8_part 31 = .ok (.aload_n 0, 1) := by decide +kernel
theorem dX8_part_32 : decode cX8_part 32 = .ok (.getfield 17, 3) := by decide +kernel
theorem dX8_part_35 : decode cX8_part 35 = .ok (.aload_n 0, 1) := by decide +kernel
theorem dX8_part_36 : decode cX8_part 36 = .ok (.getfield 165, 3) := by decide +kernel
theorem dX8_part_39 : decode cX8_part 39 = .ok (.caload, 1) := by decide +kernel
theorem dX8_part_40 : decode cX8_part 40 = .ok (.bipush 48, 2) := by decide +kernel
theorem dX8_part_42 : decode cX8_part 42 = .ok (.isub, 1) := by decide +kernel
theorem dX8_part_43 : decode cX8_part 43 = .ok (.goto 4, 3) := by decide +kernel
theorem dX8_part_46 : decode cX8_part 46 = .ok (.iconst 1, 1) := by decide +kernel
theorem dX8_part_47 : decode cX8_part 47 = .ok (.putfield 168, 3) := by decide +kernel
theorem dX8_part_50 : decode cX8_part 50 = .ok (.aload_n 0, 1) := by decide +kernel
theorem dX8_part_51 : decode cX8_part 51 = .ok (.dup, 1) := by decide +kernel
theorem dX8_part_52 : decode cX8_part 52 = .ok (.getfield 165, 3) := by decide +kernel
theorem dX8_part_55 : decode cX8_part 55 = .ok (.aload_n 0, 1) := by decide +kernel
theorem dX8_part_56 : decode cX8_part 56 = .ok (.getfield 168, 3) := by decide +kernel
theorem dX8_part_59 : decode cX8_part 59 = .ok (.iconst 1, 1) := by decide +kernel
theorem dX8_part_60 : decode cX8_part 60 = .ok (.if_icmp .le 7, 3) := by decide +kernel
theorem dX8_part_63 : decode cX8_part 63 = .ok (.iconst 1, 1) := by decide +kernel
theorem dX8_part_64 : decode cX8_part 64 = .ok (.goto 4, 3) := by decide +kernel
theorem dX8_part_67 : decode cX8_part 67 = .ok (.iconst 0, 1) := by decide +kernel
theorem dX8_part_68 : decode cX8_part 68 = .ok (.iadd, 1) := by decide +kernel
theorem dX8_part_69 : decode cX8_part 69 = .ok (.putfield 165, 3) := by decide +kernel
theorem dX8_part_72 : decode cX8_part 72 = .ok (.aload_n 0, 1) := by decide +kernel
theorem dX8_part_73 : decode cX8_part 73 = .ok (.getfield 165, 3) := by decide +kernel
theorem dX8_part_76 : decode cX8_part 76 = .ok (.aload_n 0, 1) := by decide +kernel
theorem dX8_part_77 : decode cX8_part 77 = .ok (.getfield 159, 3) := by decide +kernel
theorem dX8_part_80 : decode cX8_part 80 = .ok (.if_icmp .ge 15, 3) := by decide +kernel
theorem dX8_part_83 : decode cX8_part 83 = .ok (.aload_n 0, 1) := by decide +kernel
theorem dX8_part_84 : decode cX8_part 84 = .ok (.getfield 17, 3) := by decide +kernel
theorem dX8_part_87 : decode cX8_part 87 = .ok (.aload_n 0, 1) := by decide +kernel
theorem dX8_part_88 : decode cX8_part 88 = .ok (.getfield 165, 3) := by decide +kernel
theorem dX8_part_91 : decode cX8_part 91 = .ok (.caload, 1) := by decide +kernel
theorem dX8_part_92 : decode cX8_part 92 = .ok (.goto 4, 3) := by decide +kernel
theorem dX8_part_95 : decode cX8_part 95 = .ok (.iconst (-1), 1) := by decide +kernel
theorem dX8_part_96 : decode cX8_part 96 = .ok (.istore_n 1, 1) := by decide +kernel
theorem dX8_part_97 : decode cX8_part 97 = .ok (.iload_n 1, 1) := by decide +kernel
theorem dX8_part_98 : decode cX8_part 98 = .ok (.bipush 39, 2) := by decide +kernel
theorem dX8_part_100 : decode cX8_part 100 = .ok (.if_icmp .ne 7, 3) := by decide +kernel
theorem dX8_part_103 : decode cX8_part 103 = .ok (.iconst 1, 1) := by decide +kernel
theorem dX8_part_104 : decode cX8_part 104 = .ok (.goto 4, 3) := by decide +kernel
theorem dX8_part_107 : decode cX8_part 107 = .ok (.iconst 0, 1) := by decide +kernel
theorem dX8_part_108 : decode cX8_part 108 = .ok (.istore_n 2, 1) := by decide +kernel
theorem dX8_part_109 : decode cX8_part 109 = .ok (.aload_n 0, 1) := by decide +kernel
theorem dX8_part_110 : decode cX8_part 110 = .ok (.dup, 1) := by decide +kernel
theorem dX8_part_111 : decode cX8_part 111 = .ok (.getfield 165, 3) := by decide +kernel
theorem dX8_part_114 : decode cX8_part 114 = .ok (.iload_n 2, 1) := by decide +kernel
theorem dX8_part_115 : decode cX8_part 115 = .ok (.ifCond .ne 10, 3) := by decide +kernel
theorem dX8_part_118 : decode cX8_part 118 = .ok (.iload_n 1, 1) := by decide +kernel
theorem dX8_part_119 : decode cX8_part 119 = .ok (.invokestatic 171, 3) := by decide +kernel
theorem dX8_part_122 : decode cX8_part 122 = .ok (.ifCond .eq 7, 3) := by decide +kernel
theorem dX8_part_125 : decode cX8_part 125 = .ok (.iconst 1, 1) := by decide +kernel
theorem dX8_part_126 : decode cX8_part 126 = .ok (.goto 4, 3) := by decide +kernel
theorem dX8_part_129 : decode cX8_part 129 = .ok (.iconst 0, 1) := by decide +kernel
theorem dX8_part_130 : decode cX8_part 130 = .ok (.iadd, 1) := by decide +kernel
theorem dX8_part_131 : decode cX8_part 131 = .ok (.putfield 165, 3) := by decide +kernel
theorem dX8_part_134 : decode cX8_part 134 = .ok (.aload_n 0, 1) := by decide +kernel
theorem dX8_part_135 : decode cX8_part 135 = .ok (.iload_n 2, 1) := by decide +kernel
theorem dX8_part_136 : decode cX8_part 136 = .ok (.ifCond .eq 26, 3) := by decide +kernel
theorem dX8_part_139 : decode cX8_part 139 = .ok (.aload_n 0, 1) := by decide +kernel
theorem dX8_part_140 : decode cX8_part 140 = .ok (.getfield 165, 3) := by decide +kernel
theorem dX8_part_143 : decode cX8_part 143 = .ok (.aload_n 0, 1) := by decide +kernel
theorem dX8_part_144 : decode cX8_part 144 = .ok (.getfield 159, 3) := by decide +kernel
theorem dX8_part_147 : decode cX8_part 147 = .ok (.if_icmp .ge 15, 3) := by decide +kernel
theorem dX8_part_150 : decode cX8_part 150 = .ok (.aload_n 0, 1) := by decide +kernel
theorem dX8_part_151 : decode cX8_part 151 = .ok (.getfield 17, 3) := by decide +kernel
theorem dX8_part_154 : decode cX8_part 154 = .ok (.aload_n 0, 1) := by decide +kernel
theorem dX8_part_155 : decode cX8_part 155 = .ok (.getfield 165, 3) := by decide +kernel
theorem dX8_part_158 : decode cX8_part 158 = .ok (.caload, 1) := by decide +kernel
theorem dX8_part_159 : decode cX8_part 159 = .ok (.goto 4, 3) := by decide +kernel
theorem dX8_part_162 : decode cX8_part 162 = .ok (.iconst (-1), 1) := by decide +kernel
theorem dX8_part_163 : decode cX8_part 163 = .ok (.putfield 174, 3) := by decide +kernel
theorem dX8_part_166 : decode cX8_part 166 = .ok (.aload_n 0, 1) := by decide +kernel
theorem dX8_part_167 : decode cX8_part 167 = .ok (.dup, 1) := by decide +kernel
theorem dX8_part_168 : decode cX8_part 168 = .ok (.getfield 165, 3) := by decide +kernel
theorem dX8_part_171 : decode cX8_part 171 = .ok (.aload_n 0, 1) := by decide +kernel
theorem dX8_part_172 : decode cX8_part 172 = .ok (.getfield 174, 3) := by decide +kernel
theorem dX8_part_175 : decode cX8_part 175 = .ok (.ifCond .lt 7, 3) := by decide +kernel
theorem dX8_part_178 : decode cX8_part 178 = .ok (.iconst 1, 1) := by decide +kernel
theorem dX8_part_179 : decode cX8_part 179 = .ok (.goto 4, 3) := by decide +kernel
theorem dX8_part_182 : decode cX8_part 182 = .ok (.iconst 0, 1) := by decide +kernel
theorem dX8_part_183 : decode cX8_part 183 = .ok (.iadd, 1) := by decide +kernel
theorem dX8_part_184 : decode cX8_part 184 = .ok (.putfield 165, 3) := by decide +kernel
theorem dX8_part_187 : decode cX8_part 187 = .ok (.iload_n 2, 1) := by decide +kernel
theorem dX8_part_188 : decode cX8_part 188 = .ok (.ifCond .eq 18, 3) := by decide +kernel
theorem dX8_part_191 : decode cX8_part 191 = .ok (.aload_n 0, 1) := by decide +kernel
theorem dX8_part_192 : decode cX8_part 192 = .ok (.getfield 174, 3) := by decide +kernel
theorem dX8_part_195 : decode cX8_part 195 = .ok (.ifCond .lt 7, 3) := by decide +kernel
theorem dX8_part_198 : decode cX8_part 198 = .ok (.iload_n 1, 1) := by decide +kernel
theorem dX8_part_199 : decode cX8_part 199 = .ok (.goto 19, 3) := by decide +kernel
theorem dX8_part_202 : decode cX8_part 202 = .ok (.iconst (-1), 1) := by decide +kernel
theorem dX8_part_203 : decode cX8_part 203 = .ok (.goto 15, 3) := by decide +kernel
theorem dX8_part_206 : decode cX8_part 206 = .ok (.iload_n 1, 1) := by decide +kernel
theorem dX8_part_207 : decode cX8_part 207 = .ok (.invokestatic 171, 3) := by decide +kernel
theorem dX8_part_210 : decode cX8_part 210 = .ok (.ifCond .eq 7, 3) := by decide +kernel
theorem dX8_part_213 : decode cX8_part 213 = .ok (.iload_n 1, 1) := by decide +kernel
theorem dX8_part_214 : decode cX8_part 214 = .ok (.goto 4, 3) := by decide +kernel
theorem dX8_part_217 : decode cX8_part 217 = .ok (.iconst (-1), 1) := by decide +kernel
theorem dX8_part_218 : decode cX8_part 218 = .ok (.ireturn, 1) := by decide +kernel
theorem dX8_tells_0 : decode cX8_tells 0 = .ok (.aload_n 0, 1) := by decide +kernel
theorem dX8_tells_1 : decode cX8_tells 1 = .ok (.iconst 0, 1) := by decide +kernel
theorem dX8_tells_2 : decode cX8_tells 2 = .ok (.putfield 165, 3) := by decide +kernel
theorem dX8_tells_5 : decode cX8_tells 5 = .ok (.aload_n 0, 1) := by decide +kernel
theorem dX8_tells_6 : decode cX8_tells 6 = .ok (.invokevirtual 177, 3) := by decide +kernel
theorem dX8_tells_9 : decode cX8_tells 9 = .ok (.ifCond .lt 7, 3) := by decide +kernel
theorem dX8_tells_12 : decode cX8_tells 12 = .ok (.iconst 1, 1) := by decide +kernel
theorem dX8_tells_13 : decode cX8_tells 13 = .ok (.goto 4, 3) := by decide +kernel
theorem dX8_tells_16 : decode cX8_tells 16 = .ok (.iconst 0, 1) := by decide +kernel
theorem dX8_tells_17 : decode cX8_tells 17 = .ok (.istore_n 1, 1) := by decide +kernel
theorem dX8_tells_18 : decode cX8_tells 18 = .ok (.iload_n 1, 1) := by decide +kernel
theorem dX8_tells_19 : decode cX8_tells 19 = .ok (.ifCond .eq 30, 3) := by decide +kernel
theorem dX8_tells_22 : decode cX8_tells 22 = .ok (.aload_n 0, 1) := by decide +kernel
theorem dX8_tells_23 : decode cX8_tells 23 = .ok (.getfield 165, 3) := by decide +kernel
theorem dX8_tells_26 : decode cX8_tells 26 = .ok (.aload_n 0, 1) := by decide +kernel
theorem dX8_tells_27 : decode cX8_tells 27 = .ok (.getfield 159, 3) := by decide +kernel
theorem dX8_tells_30 : decode cX8_tells 30 = .ok (.if_icmp .ge 19, 3) := by decide +kernel
theorem dX8_tells_33 : decode cX8_tells 33 = .ok (.aload_n 0, 1) := by decide +kernel
theorem dX8_tells_34 : decode cX8_tells 34 = .ok (.invokevirtual 177, 3) := by decide +kernel
theorem dX8_tells_37 : decode cX8_tells 37 = .ok (.ifCond .lt 7, 3) := by decide +kernel
theorem dX8_tells_40 : decode cX8_tells 40 = .ok (.iconst 1, 1) := by decide +kernel
theorem dX8_tells_41 : decode cX8_tells 41 = .ok (.goto 4, 3) := by decide +kernel
theorem dX8_tells_44 : decode cX8_tells 44 = .ok (.iconst 0, 1) := by decide +kernel
theorem dX8_tells_45 : decode cX8_tells 45 = .ok (.istore_n 1, 1) := by decide +kernel
theorem dX8_tells_46 : decode cX8_tells 46 = .ok (.goto (-28), 3) := by decide +kernel
theorem dX8_tells_49 : decode cX8_tells 49 = .ok (.iload_n 1, 1) := by decide +kernel
theorem dX8_tells_50 : decode cX8_tells 50 = .ok (.ireturn, 1) := by decide +kernel
theorem dX8_firstError_0 : decode cX8_firstError 0 = .ok (.aload_n 0, 1) := by decide +kernel
theorem dX8_firstError_1 : decode cX8_firstError 1 = .ok (.iconst 0, 1) := by decide +kernel
theorem dX8_firstError_2 : decode cX8_firstError 2 = .ok (.putfield 21, 3) := by decide +kernel
theorem dX8_firstError_5 : decode cX8_firstError 5 = .ok (.aload_n 0, 1) := by decide +kernel
theorem dX8_firstError_6 : decode cX8_firstError 6 = .ok (.invokevirtual 180, 3) := by decide +kernel
theorem dX8_firstError_9 : decode cX8_firstError 9 = .ok (.pop, 1) := by decide +kernel
theorem dX8_firstError_10 : decode cX8_firstError 10 = .ok (.aload_n 0, 1) := by decide +kernel
theorem dX8_firstError_11 : decode cX8_firstError 11 = .ok (.getfield 165, 3) := by decide +kernel
theorem dX8_firstError_14 : decode cX8_firstError 14 = .ok (.ireturn, 1) := by decide +kernel
theorem dX8_doesAll_0 : decode cX8_doesAll 0 = .ok (.iconst 0, 1) := by decide +kernel
theorem dX8_doesAll_1 : decode cX8_doesAll 1 = .ok (.istore_n 1, 1) := by decide +kernel
theorem dX8_doesAll_2 : decode cX8_doesAll 2 = .ok (.iconst 1, 1) := by decide +kernel
theorem dX8_doesAll_3 : decode cX8_doesAll 3 = .ok (.istore_n 2, 1) := by decide +kernel
theorem dX8_doesAll_4 : decode cX8_doesAll 4 = .ok (.aload_n 0, 1) := by decide +kernel
theorem dX8_doesAll_5 : decode cX8_doesAll 5 = .ok (.iconst 0, 1) := by decide +kernel
theorem dX8_doesAll_6 : decode cX8_doesAll 6 = .ok (.putfield 165, 3) := by decide +kernel
theorem dX8_doesAll_9 : decode cX8_doesAll 9 = .ok (.iload_n 2, 1) := by decide +kernel
theorem dX8_doesAll_10 : decode cX8_doesAll 10 = .ok (.ifCond .eq 73, 3) := by decide +kernel
theorem dX8_doesAll_13 : decode cX8_doesAll 13 = .ok (.aload_n 0, 1) := by decide +kernel
theorem dX8_doesAll_14 : decode cX8_doesAll 14 = .ok (.getfield 165, 3) := by decide +kernel
theorem dX8_doesAll_17 : decode cX8_doesAll 17 = .ok (.aload_n 0, 1) := by decide +kernel
theorem dX8_doesAll_18 : decode cX8_doesAll 18 = .ok (.getfield 159, 3) := by decide +kernel
theorem dX8_doesAll_21 : decode cX8_doesAll 21 = .ok (.if_icmp .ge 62, 3) := by decide +kernel
theorem dX8_doesAll_24 : decode cX8_doesAll 24 = .ok (.aload_n 0, 1) := by decide +kernel
theorem dX8_doesAll_25 : decode cX8_doesAll 25 = .ok (.invokevirtual 177, 3) := by decide +kernel
theorem dX8_doesAll_28 : decode cX8_doesAll 28 = .ok (.istore_n 3, 1) := by decide +kernel
theorem dX8_doesAll_29 : decode cX8_doesAll 29 = .ok (.iconst 0, 1) := by decide +kernel
theorem dX8_doesAll_30 : decode cX8_doesAll 30 = .ok (.istore 4, 2) := by decide +kernel
theorem dX8_doesAll_32 : decode cX8_doesAll 32 = .ok (.iload 4, 2) := by decide +kernel
theorem dX8_doesAll_34 : decode cX8_doesAll 34 = .ok (.aload_n 0, 1) := by decide +kernel
theorem dX8_doesAll_35 : decode cX8_doesAll 35 = .ok (.getfield 168, 3) := by decide +kernel
theorem dX8_doesAll_38 : decode cX8_doesAll 38 = .ok (.if_icmp .ge 42, 3) := by decide +kernel
theorem dX8_doesAll_41 : decode cX8_doesAll 41 = .ok (.iload_n 2, 1) := by decide +kernel
theorem dX8_doesAll_42 : decode cX8_doesAll 42 = .ok (.ifCond .eq 38, 3) := by decide +kernel
theorem dX8_doesAll_45 : decode cX8_doesAll 45 = .ok (.aload_n 0, 1) := by decide +kernel
theorem dX8_doesAll_46 : decode cX8_doesAll 46 = .ok (.iload_n 3, 1) := by decide +kernel
theorem dX8_doesAll_47 : decode cX8_doesAll 47 = .ok (.aload_n 0, 1) := by decide +kernel
theorem dX8_doesAll_48 : decode cX8_doesAll 48 = .ok (.getfield 174, 3) := by decide +kernel
theorem dX8_doesAll_51 : decode cX8_doesAll 51 = .ok (.invokevirtual 137, 3) := by decide +kernel
theorem dX8_doesAll_54 : decode cX8_doesAll 54 = .ok (.ifCond .lt 7, 3) := by decide +kernel
theorem dX8_doesAll_57 : decode cX8_doesAll 57 = .ok (.iconst 1, 1) := by decide +kernel
theorem dX8_doesAll_58 : decode cX8_doesAll 58 = .ok (.goto 4, 3) := by decide +kernel
theorem dX8_doesAll_61 : decode cX8_doesAll 61 = .ok (.iconst 0, 1) := by decide +kernel
theorem dX8_doesAll_62 : decode cX8_doesAll 62 = .ok (.istore_n 2, 1) := by decide +kernel
theorem dX8_doesAll_63 : decode cX8_doesAll 63 = .ok (.aload_n 0, 1) := by decide +kernel
theorem dX8_doesAll_64 : decode cX8_doesAll 64 = .ok (.iload_n 3, 1) := by decide +kernel
theorem dX8_doesAll_65 : decode cX8_doesAll 65 = .ok (.invokestatic 143, 3) := by decide +kernel
theorem dX8_doesAll_68 : decode cX8_doesAll 68 = .ok (.putfield 67, 3) := by decide +kernel
theorem dX8_doesAll_71 : decode cX8_doesAll 71 = .ok (.iinc 1 1, 3) := by decide +kernel
theorem dX8_doesAll_74 : decode cX8_doesAll 74 = .ok (.iinc 4 1, 3) := by decide +kernel
theorem dX8_doesAll_77 : decode cX8_doesAll 77 = .ok (.goto (-45), 3) := by decide +kernel
theorem dX8_doesAll_80 : decode cX8_doesAll 80 = .ok (.goto (-71), 3) := by decide +kernel
theorem dX8_doesAll_83 : decode cX8_doesAll 83 = .ok (.iload_n 2, 1) := by decide +kernel
theorem dX8_doesAll_84 : decode cX8_doesAll 84 = .ok (.ifCond .eq 7, 3) := by decide +kernel
theorem dX8_doesAll_87 : decode cX8_doesAll 87 = .ok (.iload_n 1, 1) := by decide +kernel
theorem dX8_doesAll_88 : decode cX8_doesAll 88 = .ok (.goto 4, 3) := by decide +kernel
theorem dX8_doesAll_91 : decode cX8_doesAll 91 = .ok (.iconst (-1), 1) := by decide +kernel
theorem dX8_doesAll_92 : decode cX8_doesAll 92 = .ok (.ireturn, 1) := by decide +kernel
theorem dX8_perform_0 : decode cX8_perform 0 = .ok (.aload_n 0, 1) := by decide +kernel
theorem dX8_perform_1 : decode cX8_perform 1 = .ok (.invokevirtual 180, 3) := by decide +kernel
theorem dX8_perform_4 : decode cX8_perform 4 = .ok (.istore_n 1, 1) := by decide +kernel
theorem dX8_perform_5 : decode cX8_perform 5 = .ok (.aload_n 0, 1) := by decide +kernel
theorem dX8_perform_6 : decode cX8_perform 6 = .ok (.getfield 67, 3) := by decide +kernel
theorem dX8_perform_9 : decode cX8_perform 9 = .ok (.istore_n 2, 1) := by decide +kernel
theorem dX8_perform_10 : decode cX8_perform 10 = .ok (.aload_n 0, 1) := by decide +kernel
theorem dX8_perform_11 : decode cX8_perform 11 = .ok (.iconst 0, 1) := by decide +kernel
theorem dX8_perform_12 : decode cX8_perform 12 = .ok (.bipush 9, 2) := by decide +kernel
theorem dX8_perform_14 : decode cX8_perform 14 = .ok (.invokevirtual 28, 3) := by decide +kernel
theorem dX8_perform_17 : decode cX8_perform 17 = .ok (.iload_n 1, 1) := by decide +kernel
theorem dX8_perform_18 : decode cX8_perform 18 = .ok (.ifCond .eq 10, 3) := by decide +kernel
theorem dX8_perform_21 : decode cX8_perform 21 = .ok (.aload_n 0, 1) := by decide +kernel
theorem dX8_perform_22 : decode cX8_perform 22 = .ok (.invokevirtual 184, 3) := by decide +kernel
theorem dX8_perform_25 : decode cX8_perform 25 = .ok (.goto 4, 3) := by decide +kernel
theorem dX8_perform_28 : decode cX8_perform 28 = .ok (.iconst (-1), 1) := by decide +kernel
theorem dX8_perform_29 : decode cX8_perform 29 = .ok (.istore_n 3, 1) := by decide +kernel
theorem dX8_perform_30 : decode cX8_perform 30 = .ok (.aload_n 0, 1) := by decide +kernel
theorem dX8_perform_31 : decode cX8_perform 31 = .ok (.iload_n 1, 1) := by decide +kernel
theorem dX8_perform_32 : decode cX8_perform 32 = .ok (.iload_n 3, 1) := by decide +kernel
theorem dX8_perform_33 : decode cX8_perform 33 = .ok (.ifCond .lt 7, 3) := by decide +kernel
theorem dX8_perform_36 : decode cX8_perform 36 = .ok (.iconst 1, 1) := by decide +kernel
theorem dX8_perform_37 : decode cX8_perform 37 = .ok (.goto 4, 3) := by decide +kernel
theorem dX8_perform_40 : decode cX8_perform 40 = .ok (.iconst 0, 1) := by decide +kernel
theorem dX8_perform_41 : decode cX8_perform 41 = .ok (.iconst 1, 1) := by decide +kernel
theorem dX8_perform_42 : decode cX8_perform 42 = .ok (.invokevirtual 146, 3) := by decide +kernel
theorem dX8_perform_45 : decode cX8_perform 45 = .ok (.ifCond .ne 17, 3) := by decide +kernel
theorem dX8_perform_48 : decode cX8_perform 48 = .ok (.aload_n 0, 1) := by decide +kernel
theorem dX8_perform_49 : decode cX8_perform 49 = .ok (.bipush 9, 2) := by decide +kernel
theorem dX8_perform_51 : decode cX8_perform 51 = .ok (.iconst 0, 1) := by decide +kernel
theorem dX8_perform_52 : decode cX8_perform 52 = .ok (.invokevirtual 28, 3) := by decide +kernel
theorem dX8_perform_55 : decode cX8_perform 55 = .ok (.aload_n 0, 1) := by decide +kernel
theorem dX8_perform_56 : decode cX8_perform 56 = .ok (.iload_n 2, 1) := by decide +kernel
theorem dX8_perform_57 : decode cX8_perform 57 = .ok (.putfield 67, 3) := by decide +kernel
theorem dX8_perform_60 : decode cX8_perform 60 = .ok (.iconst 0, 1) := by decide +kernel
theorem dX8_perform_61 : decode cX8_perform 61 = .ok (.ireturn, 1) := by decide +kernel
theorem dX8_perform_62 : decode cX8_perform 62 = .ok (.aload_n 0, 1) := by decide +kernel
theorem dX8_perform_63 : decode cX8_perform 63 = .ok (.invokevirtual 140, 3) := by decide +kernel
theorem dX8_perform_66 : decode cX8_perform 66 = .ok (.aload_n 0, 1) := by decide +kernel
theorem dX8_perform_67 : decode cX8_perform 67 = .ok (.iconst 0, 1) := by decide +kernel
theorem dX8_perform_68 : decode cX8_perform 68 = .ok (.putfield 159, 3) := by decide +kernel
theorem dX8_perform_71 : decode cX8_perform 71 = .ok (.iload_n 3, 1) := by decide +kernel
theorem dX8_perform_72 : decode cX8_perform 72 = .ok (.ireturn, 1) := by decide +kernel
theorem dX8_keep_0 : decode cX8_keep 0 = .ok (.aload_n 0, 1) := by decide +kernel
theorem dX8_keep_1 : decode cX8_keep 1 = .ok (.iload_n 1, 1) := by decide +kernel
theorem dX8_keep_2 : decode cX8_keep 2 = .ok (.iconst 0, 1) := by decide +kernel
theorem dX8_keep_3 : decode cX8_keep 3 = .ok (.iconst 1, 1) := by decide +kernel
theorem dX8_keep_4 : decode cX8_keep 4 = .ok (.invokestatic 32, 3) := by decide +kernel
theorem dX8_keep_7 : decode cX8_keep 7 = .ok (.iconst 1, 1) := by decide +kernel
theorem dX8_keep_8 : decode cX8_keep 8 = .ok (.iconst 1, 1) := by decide +kernel
theorem dX8_keep_9 : decode cX8_keep 9 = .ok (.invokevirtual 146, 3) := by decide +kernel
theorem dX8_keep_12 : decode cX8_keep 12 = .ok (.ifCond .eq 19, 3) := by decide +kernel
theorem dX8_keep_15 : decode cX8_keep 15 = .ok (.aload_n 0, 1) := by decide +kernel
theorem dX8_keep_16 : decode cX8_keep 16 = .ok (.iconst 0, 1) := by decide +kernel
theorem dX8_keep_17 : decode cX8_keep 17 = .ok (.bipush 7, 2) := by decide +kernel
theorem dX8_keep_19 : decode cX8_keep 19 = .ok (.iload_n 1, 1) := by decide +kernel
theorem dX8_keep_20 : decode cX8_keep 20 = .ok (.iadd, 1) := by decide +kernel
theorem dX8_keep_21 : decode cX8_keep 21 = .ok (.invokevirtual 28, 3) := by decide +kernel
theorem dX8_keep_24 : decode cX8_keep 24 = .ok (.aload_n 0, 1) := by decide +kernel
theorem dX8_keep_25 : decode cX8_keep 25 = .ok (.getfield 13, 3) := by decide +kernel
theorem dX8_keep_28 : decode cX8_keep 28 = .ok (.iload_n 1, 1) := by decide +kernel
theorem dX8_keep_29 : decode cX8_keep 29 = .ok (.iconst 1, 1) := by decide +kernel
theorem dX8_keep_30 : decode cX8_keep 30 = .ok (.bastore, 1) := by decide +kernel
theorem dX8_keep_31 : decode cX8_keep 31 = .ok (.return_, 1) := by decide +kernel
theorem dX8_goBack_0 : decode cX8_goBack 0 = .ok (.iload_n 1, 1) := by decide +kernel
theorem dX8_goBack_1 : decode cX8_goBack 1 = .ok (.iconst 0, 1) := by decide +kernel
theorem dX8_goBack_2 : decode cX8_goBack 2 = .ok (.iconst 1, 1) := by decide +kernel
theorem dX8_goBack_3 : decode cX8_goBack 3 = .ok (.invokestatic 32, 3) := by decide +kernel
theorem dX8_goBack_6 : decode cX8_goBack 6 = .ok (.istore_n 2, 1) := by decide +kernel
theorem dX8_goBack_7 : decode cX8_goBack 7 = .ok (.aload_n 0, 1) := by decide +kernel
theorem dX8_goBack_8 : decode cX8_goBack 8 = .ok (.iload_n 2, 1) := by decide +kernel
theorem dX8_goBack_9 : decode cX8_goBack 9 = .ok (.iload_n 2, 1) := by decide +kernel
theorem dX8_goBack_10 : decode cX8_goBack 10 = .ok (.ifCond .eq 16, 3) := by decide +kernel
theorem dX8_goBack_13 : decode cX8_goBack 13 = .ok (.aload_n 0, 1) := by decide +kernel
theorem dX8_goBack_14 : decode cX8_goBack 14 = .ok (.getfield 13, 3) := by decide +kernel
theorem dX8_goBack_17 : decode cX8_goBack 17 = .ok (.iload_n 1, 1) := by decide +kernel
theorem dX8_goBack_18 : decode cX8_goBack 18 = .ok (.baload, 1) := by decide +kernel
theorem dX8_goBack_19 : decode cX8_goBack 19 = .ok (.ifCond .eq 7, 3) := by decide +kernel
theorem dX8_goBack_22 : decode cX8_goBack 22 = .ok (.iconst 1, 1) := by decide +kernel
theorem dX8_goBack_23 : decode cX8_goBack 23 = .ok (.goto 4, 3) := by decide +kernel
theorem dX8_goBack_26 : decode cX8_goBack 26 = .ok (.iconst 0, 1) := by decide +kernel
theorem dX8_goBack_27 : decode cX8_goBack 27 = .ok (.iconst 1, 1) := by decide +kernel
theorem dX8_goBack_28 : decode cX8_goBack 28 = .ok (.invokevirtual 146, 3) := by decide +kernel
theorem dX8_goBack_31 : decode cX8_goBack 31 = .ok (.ifCond .eq 21, 3) := by decide +kernel
theorem dX8_goBack_34 : decode cX8_goBack 34 = .ok (.aload_n 0, 1) := by decide +kernel
theorem dX8_goBack_35 : decode cX8_goBack 35 = .ok (.invokevirtual 150, 3) := by decide +kernel
theorem dX8_goBack_38 : decode cX8_goBack 38 = .ok (.aload_n 0, 1) := by decide +kernel
theorem dX8_goBack_39 : decode cX8_goBack 39 = .ok (.bipush 7, 2) := by decide +kernel
theorem dX8_goBack_41 : decode cX8_goBack 41 = .ok (.iload_n 1, 1) := by decide +kernel
theorem dX8_goBack_42 : decode cX8_goBack 42 = .ok (.iadd, 1) := by decide +kernel
theorem dX8_goBack_43 : decode cX8_goBack 43 = .ok (.iconst 0, 1) := by decide +kernel
theorem dX8_goBack_44 : decode cX8_goBack 44 = .ok (.invokevirtual 28, 3) := by decide +kernel
theorem dX8_goBack_47 : decode cX8_goBack 47 = .ok (.aload_n 0, 1) := by decide +kernel
theorem dX8_goBack_48 : decode cX8_goBack 48 = .ok (.iconst 0, 1) := by decide +kernel
theorem dX8_goBack_49 : decode cX8_goBack 49 = .ok (.putfield 67, 3) := by decide +kernel
theorem dX8_goBack_52 : decode cX8_goBack 52 = .ok (.return_, 1) := by decide +kernel
theorem dX8_undo_0 : decode cX8_undo 0 = .ok (.aload_n 0, 1) := by decide +kernel
theorem dX8_undo_1 : decode cX8_undo 1 = .ok (.aload_n 0, 1) := by decide +kernel
theorem dX8_undo_2 : decode cX8_undo 2 = .ok (.getfield 25, 3) := by decide +kernel
theorem dX8_undo_5 : decode cX8_undo 5 = .ok (.ifCond .le 7, 3) := by decide +kernel
theorem dX8_undo_8 : decode cX8_undo 8 = .ok (.iconst 1, 1) := by decide +kernel
theorem dX8_undo_9 : decode cX8_undo 9 = .ok (.goto 4, 3) := by decide +kernel
theorem dX8_undo_12 : decode cX8_undo 12 = .ok (.iconst 0, 1) := by decide +kernel
theorem dX8_undo_13 : decode cX8_undo 13 = .ok (.iconst 1, 1) := by decide +kernel
theorem dX8_undo_14 : decode cX8_undo 14 = .ok (.iconst 1, 1) := by decide +kernel
theorem dX8_undo_15 : decode cX8_undo 15 = .ok (.invokevirtual 146, 3) := by decide +kernel
theorem dX8_undo_18 : decode cX8_undo 18 = .ok (.ifCond .eq 27, 3) := by decide +kernel
theorem dX8_undo_21 : decode cX8_undo 21 = .ok (.aload_n 0, 1) := by decide +kernel
theorem dX8_undo_22 : decode cX8_undo 22 = .ok (.aload_n 0, 1) := by decide +kernel
theorem dX8_undo_23 : decode cX8_undo 23 = .ok (.getfield 25, 3) := by decide +kernel
theorem dX8_undo_26 : decode cX8_undo 26 = .ok (.iconst 0, 1) := by decide +kernel
theorem dX8_undo_27 : decode cX8_undo 27 = .ok (.invokevirtual 28, 3) := by decide +kernel
theorem dX8_undo_30 : decode cX8_undo 30 = .ok (.aload_n 0, 1) := by decide +kernel
theorem dX8_undo_31 : decode cX8_undo 31 = .ok (.dup, 1) := by decide +kernel
theorem dX8_undo_32 : decode cX8_undo 32 = .ok (.getfield 25, 3) := by decide +kernel
theorem dX8_undo_35 : decode cX8_undo 35 = .ok (.iconst 1, 1) := by decide +kernel
theorem dX8_undo_36 : decode cX8_undo 36 = .ok (.isub, 1) := by decide +kernel
theorem dX8_undo_37 : decode cX8_undo 37 = .ok (.putfield 25, 3) := by decide +kernel
theorem dX8_undo_40 : decode cX8_undo 40 = .ok (.aload_n 0, 1) := by decide +kernel
theorem dX8_undo_41 : decode cX8_undo 41 = .ok (.iconst 0, 1) := by decide +kernel
theorem dX8_undo_42 : decode cX8_undo 42 = .ok (.putfield 67, 3) := by decide +kernel
theorem dX8_undo_45 : decode cX8_undo 45 = .ok (.return_, 1) := by decide +kernel
theorem dX8_savedStates_0 : decode cX8_savedStates 0 = .ok (.aload_n 0, 1) := by decide +kernel
theorem dX8_savedStates_1 : decode cX8_savedStates 1 = .ok (.iconst 0, 1) := by decide +kernel
theorem dX8_savedStates_2 : decode cX8_savedStates 2 = .ok (.putfield 21, 3) := by decide +kernel
theorem dX8_savedStates_5 : decode cX8_savedStates 5 = .ok (.aload_n 0, 1) := by decide +kernel
theorem dX8_savedStates_6 : decode cX8_savedStates 6 = .ok (.getfield 25, 3) := by decide +kernel
theorem dX8_savedStates_9 : decode cX8_savedStates 9 = .ok (.ireturn, 1) := by decide +kernel
theorem dX8_plain_0 : decode cX8_plain 0 = .ok (.aload_n 0, 1) := by decide +kernel
theorem dX8_plain_1 : decode cX8_plain 1 = .ok (.iconst 0, 1) := by decide +kernel
theorem dX8_plain_2 : decode cX8_plain 2 = .ok (.putfield 21, 3) := by decide +kernel
theorem dX8_plain_5 : decode cX8_plain 5 = .ok (.aload_n 0, 1) := by decide +kernel
theorem dX8_plain_6 : decode cX8_plain 6 = .ok (.getfield 7, 3) := by decide +kernel
theorem dX8_plain_9 : decode cX8_plain 9 = .ok (.iload_n 1, 1) := by decide +kernel
theorem dX8_plain_10 : decode cX8_plain 10 = .ok (.iaload, 1) := by decide +kernel
theorem dX8_plain_11 : decode cX8_plain 11 = .ok (.ireturn, 1) := by decide +kernel
theorem dX8_length_0 : decode cX8_length 0 = .ok (.aload_n 0, 1) := by decide +kernel
theorem dX8_length_1 : decode cX8_length 1 = .ok (.iconst 0, 1) := by decide +kernel
theorem dX8_length_2 : decode cX8_length 2 = .ok (.invokevirtual 187, 3) := by decide +kernel
theorem dX8_length_5 : decode cX8_length 5 = .ok (.ireturn, 1) := by decide +kernel
theorem dX8_codeAt_0 : decode cX8_codeAt 0 = .ok (.aload_n 0, 1) := by decide +kernel
theorem dX8_codeAt_1 : decode cX8_codeAt 1 = .ok (.iload_n 1, 1) := by decide +kernel
theorem dX8_codeAt_2 : decode cX8_codeAt 2 = .ok (.iconst 0, 1) := by decide +kernel
theorem dX8_codeAt_3 : decode cX8_codeAt 3 = .ok (.aload_n 0, 1) := by decide +kernel
theorem dX8_codeAt_4 : decode cX8_codeAt 4 = .ok (.getfield 7, 3) := by decide +kernel
theorem dX8_codeAt_7 : decode cX8_codeAt 7 = .ok (.iconst 0, 1) := by decide +kernel
theorem dX8_codeAt_8 : decode cX8_codeAt 8 = .ok (.iaload, 1) := by decide +kernel
theorem dX8_codeAt_9 : decode cX8_codeAt 9 = .ok (.iconst 1, 1) := by decide +kernel
theorem dX8_codeAt_10 : decode cX8_codeAt 10 = .ok (.isub, 1) := by decide +kernel
theorem dX8_codeAt_11 : decode cX8_codeAt 11 = .ok (.invokestatic 32, 3) := by decide +kernel
theorem dX8_codeAt_14 : decode cX8_codeAt 14 = .ok (.iconst 1, 1) := by decide +kernel
theorem dX8_codeAt_15 : decode cX8_codeAt 15 = .ok (.iconst 1, 1) := by decide +kernel
theorem dX8_codeAt_16 : decode cX8_codeAt 16 = .ok (.invokevirtual 146, 3) := by decide +kernel
theorem dX8_codeAt_19 : decode cX8_codeAt 19 = .ok (.ifCond .eq 11, 3) := by decide +kernel
theorem dX8_codeAt_22 : decode cX8_codeAt 22 = .ok (.aload_n 0, 1) := by decide +kernel
theorem dX8_codeAt_23 : decode cX8_codeAt 23 = .ok (.iload_n 1, 1) := by decide +kernel
theorem dX8_codeAt_24 : decode cX8_codeAt 24 = .ok (.invokevirtual 36, 3) := by decide +kernel
theorem dX8_codeAt_27 : decode cX8_codeAt 27 = .ok (.goto 4, 3) := by decide +kernel
theorem dX8_codeAt_30 : decode cX8_codeAt 30 = .ok (.iconst 0, 1) := by decide +kernel
theorem dX8_codeAt_31 : decode cX8_codeAt 31 = .ok (.ireturn, 1) := by decide +kernel
theorem dX8_point_0 : decode cX8_point 0 = .ok (.aload_n 0, 1) := by decide +kernel
theorem dX8_point_1 : decode cX8_point 1 = .ok (.iconst 1, 1) := by decide +kernel
theorem dX8_point_2 : decode cX8_point 2 = .ok (.invokevirtual 187, 3) := by decide +kernel
theorem dX8_point_5 : decode cX8_point 5 = .ok (.ireturn, 1) := by decide +kernel
theorem dX8_markAt_0 : decode cX8_markAt 0 = .ok (.aload_n 0, 1) := by decide +kernel
theorem dX8_markAt_1 : decode cX8_markAt 1 = .ok (.aload_n 0, 1) := by decide +kernel
theorem dX8_markAt_2 : decode cX8_markAt 2 = .ok (.getfield 7, 3) := by decide +kernel
theorem dX8_markAt_5 : decode cX8_markAt 5 = .ok (.iconst 2, 1) := by decide +kernel
theorem dX8_markAt_6 : decode cX8_markAt 6 = .ok (.iaload, 1) := by decide +kernel
theorem dX8_markAt_7 : decode cX8_markAt 7 = .ok (.ifCond .lt 7, 3) := by decide +kernel
theorem dX8_markAt_10 : decode cX8_markAt 10 = .ok (.iconst 1, 1) := by decide +kernel
theorem dX8_markAt_11 : decode cX8_markAt 11 = .ok (.goto 4, 3) := by decide +kernel
theorem dX8_markAt_14 : decode cX8_markAt 14 = .ok (.iconst 0, 1) := by decide +kernel
theorem dX8_markAt_15 : decode cX8_markAt 15 = .ok (.iconst 1, 1) := by decide +kernel
theorem dX8_markAt_16 : decode cX8_markAt 16 = .ok (.iconst 1, 1) := by decide +kernel
theorem dX8_markAt_17 : decode cX8_markAt 17 = .ok (.invokevirtual 146, 3) := by decide +kernel
theorem dX8_markAt_20 : decode cX8_markAt 20 = .ok (.ifCond .eq 12, 3) := by decide +kernel
theorem dX8_markAt_23 : decode cX8_markAt 23 = .ok (.aload_n 0, 1) := by decide +kernel
theorem dX8_markAt_24 : decode cX8_markAt 24 = .ok (.getfield 7, 3) := by decide +kernel
theorem dX8_markAt_27 : decode cX8_markAt 27 = .ok (.iconst 2, 1) := by decide +kernel
theorem dX8_markAt_28 : decode cX8_markAt 28 = .ok (.iaload, 1) := by decide +kernel
theorem dX8_markAt_29 : decode cX8_markAt 29 = .ok (.goto 4, 3) := by decide +kernel
theorem dX8_markAt_32 : decode cX8_markAt 32 = .ok (.iconst 0, 1) := by decide +kernel
theorem dX8_markAt_33 : decode cX8_markAt 33 = .ok (.ireturn, 1) := by decide +kernel
theorem dX8_between_0 : decode cX8_between 0 = .ok (.aload_n 0, 1) := by decide +kernel
theorem dX8_between_1 : decode cX8_between 1 = .ok (.aload_n 0, 1) := by decide +kernel
theorem dX8_between_2 : decode cX8_between 2 = .ok (.getfield 7, 3) := by decide +kernel
theorem dX8_between_5 : decode cX8_between 5 = .ok (.iconst 2, 1) := by decide +kernel
theorem dX8_between_6 : decode cX8_between 6 = .ok (.iaload, 1) := by decide +kernel
theorem dX8_between_7 : decode cX8_between 7 = .ok (.ifCond .lt 7, 3) := by decide +kernel
theorem dX8_between_10 : decode cX8_between 10 = .ok (.iconst 1, 1) := by decide +kernel
theorem dX8_between_11 : decode cX8_between 11 = .ok (.goto 4, 3) := by decide +kernel
theorem dX8_between_14 : decode cX8_between 14 = .ok (.iconst 0, 1) := by decide +kernel
theorem dX8_between_15 : decode cX8_between 15 = .ok (.iconst 1, 1) := by decide +kernel
theorem dX8_between_16 : decode cX8_between 16 = .ok (.iconst 1, 1) := by decide +kernel
theorem dX8_between_17 : decode cX8_between 17 = .ok (.invokevirtual 146, 3) := by decide +kernel
theorem dX8_between_20 : decode cX8_between 20 = .ok (.ifCond .eq 10, 3) := by decide +kernel
theorem dX8_between_23 : decode cX8_between 23 = .ok (.aload_n 0, 1) := by decide +kernel
theorem dX8_between_24 : decode cX8_between 24 = .ok (.invokevirtual 84, 3) := by decide +kernel
theorem dX8_between_27 : decode cX8_between 27 = .ok (.goto 4, 3) := by decide +kernel
theorem dX8_between_30 : decode cX8_between 30 = .ok (.iconst 0, 1) := by decide +kernel
theorem dX8_between_31 : decode cX8_between 31 = .ok (.ireturn, 1) := by decide +kernel
theorem dX8_endsUntil_0 : decode cX8_endsUntil 0 = .ok (.iconst 0, 1) := by decide +kernel
theorem dX8_endsUntil_1 : decode cX8_endsUntil 1 = .ok (.istore_n 2, 1) := by decide +kernel
theorem dX8_endsUntil_2 : decode cX8_endsUntil 2 = .ok (.iconst 0, 1) := by decide +kernel
theorem dX8_endsUntil_3 : decode cX8_endsUntil 3 = .ok (.istore_n 3, 1) := by decide +kernel
theorem dX8_endsUntil_4 : decode cX8_endsUntil 4 = .ok (.iload_n 3, 1) := by decide +kernel
theorem dX8_endsUntil_5 : decode cX8_endsUntil 5 = .ok (.iload_n 1, 1) := by decide +kernel
theorem dX8_endsUntil_6 : decode cX8_endsUntil 6 = .ok (.if_icmp .ge 27, 3) := by decide +kernel
theorem dX8_endsUntil_9 : decode cX8_endsUntil 9 = .ok (.iload_n 2, 1) := by decide +kernel
theorem dX8_endsUntil_10 : decode cX8_endsUntil 10 = .ok (.aload_n 0, 1) := by decide +kernel
theorem dX8_endsUntil_11 : decode cX8_endsUntil 11 = .ok (.iload_n 3, 1) := by decide +kernel
theorem dX8_endsUntil_12 : decode cX8_endsUntil 12 = .ok (.invokevirtual 36, 3) := by decide +kernel
theorem dX8_endsUntil_15 : decode cX8_endsUntil 15 = .ok (.bipush 10, 2) := by decide +kernel
theorem dX8_endsUntil_17 : decode cX8_endsUntil 17 = .ok (.if_icmp .ne 7, 3) := by decide +kernel
theorem dX8_endsUntil_20 : decode cX8_endsUntil 20 = .ok (.iconst 1, 1) := by decide +kernel
theorem dX8_endsUntil_21 : decode cX8_endsUntil 21 = .ok (.goto 4, 3) := by decide +kernel
theorem dX8_endsUntil_24 : decode cX8_endsUntil 24 = .ok (.iconst 0, 1) := by decide +kernel
theorem dX8_endsUntil_25 : decode cX8_endsUntil 25 = .ok (.iadd, 1) := by decide +kernel
theorem dX8_endsUntil_26 : decode cX8_endsUntil 26 = .ok (.istore_n 2, 1) := by decide +kernel
theorem dX8_endsUntil_27 : decode cX8_endsUntil 27 = .ok (.iinc 3 1, 3) := by decide +kernel
theorem dX8_endsUntil_30 : decode cX8_endsUntil 30 = .ok (.goto (-26), 3) := by decide +kernel
theorem dX8_endsUntil_33 : decode cX8_endsUntil 33 = .ok (.iload_n 2, 1) := by decide +kernel
theorem dX8_endsUntil_34 : decode cX8_endsUntil 34 = .ok (.ireturn, 1) := by decide +kernel
theorem dX8_linesByEnds_0 : decode cX8_linesByEnds 0 = .ok (.aload_n 0, 1) := by decide +kernel
theorem dX8_linesByEnds_1 : decode cX8_linesByEnds 1 = .ok (.iconst 0, 1) := by decide +kernel
theorem dX8_linesByEnds_2 : decode cX8_linesByEnds 2 = .ok (.putfield 21, 3) := by decide +kernel
theorem dX8_linesByEnds_5 : decode cX8_linesByEnds 5 = .ok (.aload_n 0, 1) := by decide +kernel
theorem dX8_linesByEnds_6 : decode cX8_linesByEnds 6 = .ok (.aload_n 0, 1) := by decide +kernel
theorem dX8_linesByEnds_7 : decode cX8_linesByEnds 7 = .ok (.getfield 7, 3) := by decide +kernel
theorem dX8_linesByEnds_10 : decode cX8_linesByEnds 10 = .ok (.iconst 0, 1) := by decide +kernel
theorem dX8_linesByEnds_11 : decode cX8_linesByEnds 11 = .ok (.iaload, 1) := by decide +kernel
theorem dX8_linesByEnds_12 : decode cX8_linesByEnds 12 = .ok (.invokevirtual 190, 3) := by decide +kernel
theorem dX8_linesByEnds_15 : decode cX8_linesByEnds 15 = .ok (.iconst 1, 1) := by decide +kernel
theorem dX8_linesByEnds_16 : decode cX8_linesByEnds 16 = .ok (.iadd, 1) := by decide +kernel
theorem dX8_linesByEnds_17 : decode cX8_linesByEnds 17 = .ok (.ireturn, 1) := by decide +kernel
theorem dX8_linesByGoing_0 : decode cX8_linesByGoing 0 = .ok (.aload_n 0, 1) := by decide +kernel
theorem dX8_linesByGoing_1 : decode cX8_linesByGoing 1 = .ok (.iconst 0, 1) := by decide +kernel
theorem dX8_linesByGoing_2 : decode cX8_linesByGoing 2 = .ok (.putfield 21, 3) := by decide +kernel
theorem dX8_linesByGoing_5 : decode cX8_linesByGoing 5 = .ok (.aload_n 0, 1) := by decide +kernel
theorem dX8_linesByGoing_6 : decode cX8_linesByGoing 6 = .ok (.aload_n 0, 1) := by decide +kernel
theorem dX8_linesByGoing_7 : decode cX8_linesByGoing 7 = .ok (.getfield 7, 3) := by decide +kernel
theorem dX8_linesByGoing_10 : decode cX8_linesByGoing 10 = .ok (.iconst 0, 1) := by decide +kernel
theorem dX8_linesByGoing_11 : decode cX8_linesByGoing 11 = .ok (.iaload, 1) := by decide +kernel
theorem dX8_linesByGoing_12 : decode cX8_linesByGoing 12 = .ok (.invokevirtual 190, 3) := by decide +kernel
theorem dX8_linesByGoing_15 : decode cX8_linesByGoing 15 = .ok (.iconst 1, 1) := by decide +kernel
theorem dX8_linesByGoing_16 : decode cX8_linesByGoing 16 = .ok (.iadd, 1) := by decide +kernel
theorem dX8_linesByGoing_17 : decode cX8_linesByGoing 17 = .ok (.ireturn, 1) := by decide +kernel
theorem dX8_line_0 : decode cX8_line 0 = .ok (.aload_n 0, 1) := by decide +kernel
theorem dX8_line_1 : decode cX8_line 1 = .ok (.iconst 0, 1) := by decide +kernel
theorem dX8_line_2 : decode cX8_line 2 = .ok (.putfield 21, 3) := by decide +kernel
theorem dX8_line_5 : decode cX8_line 5 = .ok (.aload_n 0, 1) := by decide +kernel
theorem dX8_line_6 : decode cX8_line 6 = .ok (.aload_n 0, 1) := by decide +kernel
theorem dX8_line_7 : decode cX8_line 7 = .ok (.getfield 7, 3) := by decide +kernel
theorem dX8_line_10 : decode cX8_line 10 = .ok (.iconst 1, 1) := by decide +kernel
theorem dX8_line_11 : decode cX8_line 11 = .ok (.iaload, 1) := by decide +kernel
theorem dX8_line_12 : decode cX8_line 12 = .ok (.invokevirtual 190, 3) := by decide +kernel
theorem dX8_line_15 : decode cX8_line 15 = .ok (.ireturn, 1) := by decide +kernel
theorem dX8_column_0 : decode cX8_column 0 = .ok (.aload_n 0, 1) := by decide +kernel
theorem dX8_column_1 : decode cX8_column 1 = .ok (.iconst 0, 1) := by decide +kernel
theorem dX8_column_2 : decode cX8_column 2 = .ok (.putfield 21, 3) := by decide +kernel
theorem dX8_column_5 : decode cX8_column 5 = .ok (.aload_n 0, 1) := by decide +kernel
theorem dX8_column_6 : decode cX8_column 6 = .ok (.getfield 7, 3) := by decide +kernel
theorem dX8_column_9 : decode cX8_column 9 = .ok (.iconst 1, 1) := by decide +kernel
theorem dX8_column_10 : decode cX8_column 10 = .ok (.iaload, 1) := by decide +kernel
theorem dX8_column_11 : decode cX8_column 11 = .ok (.aload_n 0, 1) := by decide +kernel
theorem dX8_column_12 : decode cX8_column 12 = .ok (.aload_n 0, 1) := by decide +kernel
theorem dX8_column_13 : decode cX8_column 13 = .ok (.getfield 7, 3) := by decide +kernel
theorem dX8_column_16 : decode cX8_column 16 = .ok (.iconst 1, 1) := by decide +kernel
theorem dX8_column_17 : decode cX8_column 17 = .ok (.iaload, 1) := by decide +kernel
theorem dX8_column_18 : decode cX8_column 18 = .ok (.invokevirtual 61, 3) := by decide +kernel
theorem dX8_column_21 : decode cX8_column 21 = .ok (.isub, 1) := by decide +kernel
theorem dX8_column_22 : decode cX8_column 22 = .ok (.ireturn, 1) := by decide +kernel
theorem dX8_longest_0 : decode cX8_longest 0 = .ok (.iconst 0, 1) := by decide +kernel
theorem dX8_longest_1 : decode cX8_longest 1 = .ok (.istore_n 1, 1) := by decide +kernel
theorem dX8_longest_2 : decode cX8_longest 2 = .ok (.iconst 0, 1) := by decide +kernel
theorem dX8_longest_3 : decode cX8_longest 3 = .ok (.istore_n 2, 1) := by decide +kernel
theorem dX8_longest_4 : decode cX8_longest 4 = .ok (.iload_n 2, 1) := by decide +kernel
theorem dX8_longest_5 : decode cX8_longest 5 = .ok (.aload_n 0, 1) := by decide +kernel
theorem dX8_longest_6 : decode cX8_longest 6 = .ok (.getfield 7, 3) := by decide +kernel
theorem dX8_longest_9 : decode cX8_longest 9 = .ok (.iconst 0, 1) := by decide +kernel
theorem dX8_longest_10 : decode cX8_longest 10 = .ok (.iaload, 1) := by decide +kernel
theorem dX8_longest_11 : decode cX8_longest 11 = .ok (.if_icmp .gt 32, 3) := by decide +kernel
theorem dX8_longest_14 : decode cX8_longest 14 = .ok (.aload_n 0, 1) := by decide +kernel
theorem dX8_longest_15 : decode cX8_longest 15 = .ok (.iload_n 2, 1) := by decide +kernel
theorem dX8_longest_16 : decode cX8_longest 16 = .ok (.invokevirtual 64, 3) := by decide +kernel
theorem dX8_longest_19 : decode cX8_longest 19 = .ok (.aload_n 0, 1) := by decide +kernel
theorem dX8_longest_20 : decode cX8_longest 20 = .ok (.iload_n 2, 1) := by decide +kernel
theorem dX8_longest_21 : decode cX8_longest 21 = .ok (.invokevirtual 61, 3) := by decide +kernel
theorem dX8_longest_24 : decode cX8_longest 24 = .ok (.isub, 1) := by decide +kernel
theorem dX8_longest_25 : decode cX8_longest 25 = .ok (.istore_n 3, 1) := by decide +kernel
theorem dX8_longest_26 : decode cX8_longest 26 = .ok (.iload_n 3, 1) := by decide +kernel
theorem dX8_longest_27 : decode cX8_longest 27 = .ok (.iload_n 1, 1) := by decide +kernel
theorem dX8_longest_28 : decode cX8_longest 28 = .ok (.if_icmp .le 7, 3) := by decide +kernel
theorem dX8_longest_31 : decode cX8_longest 31 = .ok (.iload_n 3, 1) := by decide +kernel
theorem dX8_longest_32 : decode cX8_longest 32 = .ok (.goto 4, 3) := by decide +kernel
theorem dX8_longest_35 : decode cX8_longest 35 = .ok (.iload_n 1, 1) := by decide +kernel
theorem dX8_longest_36 : decode cX8_longest 36 = .ok (.istore_n 1, 1) := by decide +kernel
theorem dX8_longest_37 : decode cX8_longest 37 = .ok (.iinc 2 1, 3) := by decide +kernel
theorem dX8_longest_40 : decode cX8_longest 40 = .ok (.goto (-36), 3) := by decide +kernel
theorem dX8_longest_43 : decode cX8_longest 43 = .ok (.iload_n 1, 1) := by decide +kernel
theorem dX8_longest_44 : decode cX8_longest 44 = .ok (.ireturn, 1) := by decide +kernel
theorem dX8_longestLine_0 : decode cX8_longestLine 0 = .ok (.aload_n 0, 1) := by decide +kernel
theorem dX8_longestLine_1 : decode cX8_longestLine 1 = .ok (.iconst 0, 1) := by decide +kernel
theorem dX8_longestLine_2 : decode cX8_longestLine 2 = .ok (.putfield 21, 3) := by decide +kernel
theorem dX8_longestLine_5 : decode cX8_longestLine 5 = .ok (.aload_n 0, 1) := by decide +kernel
theorem dX8_longestLine_6 : decode cX8_longestLine 6 = .ok (.invokevirtual 193, 3) := by decide +kernel
theorem dX8_longestLine_9 : decode cX8_longestLine 9 = .ok (.ireturn, 1) := by decide +kernel
theorem dX8_words_0 : decode cX8_words 0 = .ok (.iconst 0, 1) := by decide +kernel
theorem dX8_words_1 : decode cX8_words 1 = .ok (.istore_n 1, 1) := by decide +kernel
theorem dX8_words_2 : decode cX8_words 2 = .ok (.iconst 0, 1) := by decide +kernel
theorem dX8_words_3 : decode cX8_words 3 = .ok (.istore_n 2, 1) := by decide +kernel
theorem dX8_words_4 : decode cX8_words 4 = .ok (.iload_n 2, 1) := by decide +kernel
theorem dX8_words_5 : decode cX8_words 5 = .ok (.aload_n 0, 1) := by decide +kernel
theorem dX8_words_6 : decode cX8_words 6 = .ok (.getfield 7, 3) := by decide +kernel
theorem dX8_words_9 : decode cX8_words 9 = .ok (.iconst 0, 1) := by decide +kernel
theorem dX8_words_10 : decode cX8_words 10 = .ok (.iaload, 1) := by decide +kernel
theorem dX8_words_11 : decode cX8_words 11 = .ok (.if_icmp .ge 35, 3) := by decide +kernel
theorem dX8_words_14 : decode cX8_words 14 = .ok (.iload_n 1, 1) := by decide +kernel
theorem dX8_words_15 : decode cX8_words 15 = .ok (.aload_n 0, 1) := by decide +kernel
theorem dX8_words_16 : decode cX8_words 16 = .ok (.iload_n 2, 1) := by decide +kernel
theorem dX8_words_17 : decode cX8_words 17 = .ok (.invokevirtual 44, 3) := by decide +kernel
theorem dX8_words_20 : decode cX8_words 20 = .ok (.ifCond .eq 17, 3) := by decide +kernel
theorem dX8_words_23 : decode cX8_words 23 = .ok (.aload_n 0, 1) := by decide +kernel
theorem dX8_words_24 : decode cX8_words 24 = .ok (.iload_n 2, 1) := by decide +kernel
theorem dX8_words_25 : decode cX8_words 25 = .ok (.iconst 1, 1) := by decide +kernel
theorem dX8_words_26 : decode cX8_words 26 = .ok (.isub, 1) := by decide +kernel
theorem dX8_words_27 : decode cX8_words 27 = .ok (.invokevirtual 44, 3) := by decide +kernel
theorem dX8_words_30 : decode cX8_words 30 = .ok (.ifCond .ne 7, 3) := by decide +kernel
theorem dX8_words_33 : decode cX8_words 33 = .ok (.iconst 1, 1) := by decide +kernel
theorem dX8_words_34 : decode cX8_words 34 = .ok (.goto 4, 3) := by decide +kernel
theorem dX8_words_37 : decode cX8_words 37 = .ok (.iconst 0, 1) := by decide +kernel
theorem dX8_words_38 : decode cX8_words 38 = .ok (.iadd, 1) := by decide +kernel
theorem dX8_words_39 : decode cX8_words 39 = .ok (.istore_n 1, 1) := by decide +kernel
theorem dX8_words_40 : decode cX8_words 40 = .ok (.iinc 2 1, 3) := by decide +kernel
theorem dX8_words_43 : decode cX8_words 43 = .ok (.goto (-39), 3) := by decide +kernel
theorem dX8_words_46 : decode cX8_words 46 = .ok (.iload_n 1, 1) := by decide +kernel
theorem dX8_words_47 : decode cX8_words 47 = .ok (.ireturn, 1) := by decide +kernel
theorem dX8_wordsByBegins_0 : decode cX8_wordsByBegins 0 = .ok (.aload_n 0, 1) := by decide +kernel
theorem dX8_wordsByBegins_1 : decode cX8_wordsByBegins 1 = .ok (.iconst 0, 1) := by decide +kernel
theorem dX8_wordsByBegins_2 : decode cX8_wordsByBegins 2 = .ok (.putfield 21, 3) := by decide +kernel
theorem dX8_wordsByBegins_5 : decode cX8_wordsByBegins 5 = .ok (.aload_n 0, 1) := by decide +kernel
theorem dX8_wordsByBegins_6 : decode cX8_wordsByBegins 6 = .ok (.invokevirtual 196, 3) := by decide +kernel
theorem dX8_wordsByBegins_9 : decode cX8_wordsByBegins 9 = .ok (.ireturn, 1) := by decide +kernel
theorem dX8_wordsByGoing_0 : decode cX8_wordsByGoing 0 = .ok (.aload_n 0, 1) := by decide +kernel
theorem dX8_wordsByGoing_1 : decode cX8_wordsByGoing 1 = .ok (.iconst 0, 1) := by decide +kernel
theorem dX8_wordsByGoing_2 : decode cX8_wordsByGoing 2 = .ok (.putfield 21, 3) := by decide +kernel
theorem dX8_wordsByGoing_5 : decode cX8_wordsByGoing 5 = .ok (.aload_n 0, 1) := by decide +kernel
theorem dX8_wordsByGoing_6 : decode cX8_wordsByGoing 6 = .ok (.invokevirtual 196, 3) := by decide +kernel
theorem dX8_wordsByGoing_9 : decode cX8_wordsByGoing 9 = .ok (.ireturn, 1) := by decide +kernel
theorem dX8_hoards_0 : decode cX8_hoards 0 = .ok (.aload_n 0, 1) := by decide +kernel
theorem dX8_hoards_1 : decode cX8_hoards 1 = .ok (.iconst 3, 1) := by decide +kernel
theorem dX8_hoards_2 : decode cX8_hoards 2 = .ok (.invokevirtual 187, 3) := by decide +kernel
theorem dX8_hoards_5 : decode cX8_hoards 5 = .ok (.ireturn, 1) := by decide +kernel
theorem dX8_caves_0 : decode cX8_caves 0 = .ok (.aload_n 0, 1) := by decide +kernel
theorem dX8_caves_1 : decode cX8_caves 1 = .ok (.iconst 5, 1) := by decide +kernel
theorem dX8_caves_2 : decode cX8_caves 2 = .ok (.invokevirtual 187, 3) := by decide +kernel
theorem dX8_caves_5 : decode cX8_caves 5 = .ok (.ireturn, 1) := by decide +kernel
theorem dX8_isHoard_0 : decode cX8_isHoard 0 = .ok (.iload_n 1, 1) := by decide +kernel
theorem dX8_isHoard_1 : decode cX8_isHoard 1 = .ok (.iconst 0, 1) := by decide +kernel
theorem dX8_isHoard_2 : decode cX8_isHoard 2 = .ok (.aload_n 0, 1) := by decide +kernel
theorem dX8_isHoard_3 : decode cX8_isHoard 3 = .ok (.getfield 7, 3) := by decide +kernel
theorem dX8_isHoard_6 : decode cX8_isHoard 6 = .ok (.iconst 3, 1) := by decide +kernel
theorem dX8_isHoard_7 : decode cX8_isHoard 7 = .ok (.iaload, 1) := by decide +kernel
theorem dX8_isHoard_8 : decode cX8_isHoard 8 = .ok (.iconst 1, 1) := by decide +kernel
theorem dX8_isHoard_9 : decode cX8_isHoard 9 = .ok (.isub, 1) := by decide +kernel
theorem dX8_isHoard_10 : decode cX8_isHoard 10 = .ok (.invokestatic 32, 3) := by decide +kernel
theorem dX8_isHoard_13 : decode cX8_isHoard 13 = .ok (.ireturn, 1) := by decide +kernel
theorem dX8_lengthOf_0 : decode cX8_lengthOf 0 = .ok (.aload_n 0, 1) := by decide +kernel
theorem dX8_lengthOf_1 : decode cX8_lengthOf 1 = .ok (.aload_n 0, 1) := by decide +kernel
theorem dX8_lengthOf_2 : decode cX8_lengthOf 2 = .ok (.iload_n 1, 1) := by decide +kernel
theorem dX8_lengthOf_3 : decode cX8_lengthOf 3 = .ok (.invokevirtual 199, 3) := by decide +kernel
theorem dX8_lengthOf_6 : decode cX8_lengthOf 6 = .ok (.iconst 1, 1) := by decide +kernel
theorem dX8_lengthOf_7 : decode cX8_lengthOf 7 = .ok (.iconst 1, 1) := by decide +kernel
theorem dX8_lengthOf_8 : decode cX8_lengthOf 8 = .ok (.invokevirtual 146, 3) := by decide +kernel
theorem dX8_lengthOf_11 : decode cX8_lengthOf 11 = .ok (.ifCond .eq 15, 3) := by decide +kernel
theorem dX8_lengthOf_14 : decode cX8_lengthOf 14 = .ok (.aload_n 0, 1) := by decide +kernel
theorem dX8_lengthOf_15 : decode cX8_lengthOf 15 = .ok (.getfield 7, 3) := by decide +kernel
theorem dX8_lengthOf_18 : decode cX8_lengthOf 18 = .ok (.bipush 10, 2) := by decide +kernel
theorem dX8_lengthOf_20 : decode cX8_lengthOf 20 = .ok (.iload_n 1, 1) := by decide +kernel
theorem dX8_lengthOf_21 : decode cX8_lengthOf 21 = .ok (.iadd, 1) := by decide +kernel
theorem dX8_lengthOf_22 : decode cX8_lengthOf 22 = .ok (.iaload, 1) := by decide +kernel
theorem dX8_lengthOf_23 : decode cX8_lengthOf 23 = .ok (.goto 4, 3) := by decide +kernel
theorem dX8_lengthOf_26 : decode cX8_lengthOf 26 = .ok (.iconst 0, 1) := by decide +kernel
theorem dX8_lengthOf_27 : decode cX8_lengthOf 27 = .ok (.ireturn, 1) := by decide +kernel
theorem dX8_codeIn_0 : decode cX8_codeIn 0 = .ok (.aload_n 0, 1) := by decide +kernel
theorem dX8_codeIn_1 : decode cX8_codeIn 1 = .ok (.iload_n 1, 1) := by decide +kernel
theorem dX8_codeIn_2 : decode cX8_codeIn 2 = .ok (.invokevirtual 199, 3) := by decide +kernel
theorem dX8_codeIn_5 : decode cX8_codeIn 5 = .ok (.istore_n 3, 1) := by decide +kernel
theorem dX8_codeIn_6 : decode cX8_codeIn 6 = .ok (.aload_n 0, 1) := by decide +kernel
theorem dX8_codeIn_7 : decode cX8_codeIn 7 = .ok (.iload_n 3, 1) := by decide +kernel
theorem dX8_codeIn_8 : decode cX8_codeIn 8 = .ok (.ifCond .eq 34, 3) := by decide +kernel
theorem dX8_codeIn_11 : decode cX8_codeIn 11 = .ok (.iload_n 2, 1) := by decide +kernel
theorem dX8_codeIn_12 : decode cX8_codeIn 12 = .ok (.iconst 0, 1) := by decide +kernel
theorem dX8_codeIn_13 : decode cX8_codeIn 13 = .ok (.aload_n 0, 1) := by decide +kernel
theorem dX8_codeIn_14 : decode cX8_codeIn 14 = .ok (.getfield 7, 3) := by decide +kernel
theorem dX8_codeIn_17 : decode cX8_codeIn 17 = .ok (.bipush 10, 2) := by decide +kernel
theorem dX8_codeIn_19 : decode cX8_codeIn 19 = .ok (.iload_n 3, 1) := by decide +kernel
theorem dX8_codeIn_20 : decode cX8_codeIn 20 = .ok (.ifCond .eq 7, 3) := by decide +kernel
theorem dX8_codeIn_23 : decode cX8_codeIn 23 = .ok (.iload_n 1, 1) := by decide +kernel
theorem dX8_codeIn_24 : decode cX8_codeIn 24 = .ok (.goto 4, 3) := by decide +kernel
theorem dX8_codeIn_27 : decode cX8_codeIn 27 = .ok (.iconst 0, 1) := by decide +kernel
theorem dX8_codeIn_28 : decode cX8_codeIn 28 = .ok (.iadd, 1) := by decide +kernel
theorem dX8_codeIn_29 : decode cX8_codeIn 29 = .ok (.iaload, 1) := by decide +kernel
theorem dX8_codeIn_30 : decode cX8_codeIn 30 = .ok (.iconst 1, 1) := by decide +kernel
theorem dX8_codeIn_31 : decode cX8_codeIn 31 = .ok (.isub, 1) := by decide +kernel
theorem dX8_codeIn_32 : decode cX8_codeIn 32 = .ok (.invokestatic 32, 3) := by decide +kernel
theorem dX8_codeIn_35 : decode cX8_codeIn 35 = .ok (.ifCond .eq 7, 3) := by decide +kernel
theorem dX8_codeIn_38 : decode cX8_codeIn 38 = .ok (.iconst 1, 1) := by decide +kernel
theorem dX8_codeIn_39 : decode cX8_codeIn 39 = .ok (.goto 4, 3) := by decide +kernel
theorem dX8_codeIn_42 : decode cX8_codeIn 42 = .ok (.iconst 0, 1) := by decide +kernel
theorem dX8_codeIn_43 : decode cX8_codeIn 43 = .ok (.iconst 1, 1) := by decide +kernel
theorem dX8_codeIn_44 : decode cX8_codeIn 44 = .ok (.iconst 1, 1) := by decide +kernel
theorem dX8_codeIn_45 : decode cX8_codeIn 45 = .ok (.invokevirtual 146, 3) := by decide +kernel
theorem dX8_codeIn_48 : decode cX8_codeIn 48 = .ok (.ifCond .eq 22, 3) := by decide +kernel
theorem dX8_codeIn_51 : decode cX8_codeIn 51 = .ok (.aload_n 0, 1) := by decide +kernel
theorem dX8_codeIn_52 : decode cX8_codeIn 52 = .ok (.getfield 7, 3) := by decide +kernel
theorem dX8_codeIn_55 : decode cX8_codeIn 55 = .ok (.sipush 218, 3) := by decide +kernel
theorem dX8_codeIn_58 : decode cX8_codeIn 58 = .ok (.sipush 200, 3) := by decide +kernel
theorem dX8_codeIn_61 : decode cX8_codeIn 61 = .ok (.iload_n 1, 1) := by decide +kernel
theorem dX8_codeIn_62 : decode cX8_codeIn 62 = .ok (.imul, 1) := by decide +kernel
theorem dX8_codeIn_63 : decode cX8_codeIn 63 = .ok (.iadd, 1) := by decide +kernel
theorem dX8_codeIn_64 : decode cX8_codeIn 64 = .ok (.iload_n 2, 1) := by decide +kernel
theorem dX8_codeIn_65 : decode cX8_codeIn 65 = .ok (.iadd, 1) := by decide +kernel
theorem dX8_codeIn_66 : decode cX8_codeIn 66 = .ok (.iaload, 1) := by decide +kernel
theorem dX8_codeIn_67 : decode cX8_codeIn 67 = .ok (.goto 4, 3) := by decide +kernel
theorem dX8_codeIn_70 : decode cX8_codeIn 70 = .ok (.iconst 0, 1) := by decide +kernel
theorem dX8_codeIn_71 : decode cX8_codeIn 71 = .ok (.ireturn, 1) := by decide +kernel
theorem dX8_nextHoard_0 : decode cX8_nextHoard 0 = .ok (.aload_n 0, 1) := by decide +kernel
theorem dX8_nextHoard_1 : decode cX8_nextHoard 1 = .ok (.aload_n 0, 1) := by decide +kernel
theorem dX8_nextHoard_2 : decode cX8_nextHoard 2 = .ok (.getfield 7, 3) := by decide +kernel
theorem dX8_nextHoard_5 : decode cX8_nextHoard 5 = .ok (.iconst 3, 1) := by decide +kernel
theorem dX8_nextHoard_6 : decode cX8_nextHoard 6 = .ok (.iaload, 1) := by decide +kernel
theorem dX8_nextHoard_7 : decode cX8_nextHoard 7 = .ok (.ifCond .le 7, 3) := by decide +kernel
theorem dX8_nextHoard_10 : decode cX8_nextHoard 10 = .ok (.iconst 1, 1) := by decide +kernel
theorem dX8_nextHoard_11 : decode cX8_nextHoard 11 = .ok (.goto 4, 3) := by decide +kernel
theorem dX8_nextHoard_14 : decode cX8_nextHoard 14 = .ok (.iconst 0, 1) := by decide +kernel
theorem dX8_nextHoard_15 : decode cX8_nextHoard 15 = .ok (.iconst 1, 1) := by decide +kernel
theorem dX8_nextHoard_16 : decode cX8_nextHoard 16 = .ok (.iconst 1, 1) := by decide +kernel
theorem dX8_nextHoard_17 : decode cX8_nextHoard 17 = .ok (.invokevirtual 146, 3) := by decide +kernel
theorem dX8_nextHoard_20 : decode cX8_nextHoard 20 = .ok (.ifCond .eq 12, 3) := by decide +kernel
theorem dX8_nextHoard_23 : decode cX8_nextHoard 23 = .ok (.aload_n 0, 1) := by decide +kernel
theorem dX8_nextHoard_24 : decode cX8_nextHoard 24 = .ok (.getfield 7, 3) := by decide +kernel
theorem dX8_nextHoard_27 : decode cX8_nextHoard 27 = .ok (.iconst 4, 1) := by decide +kernel
theorem dX8_nextHoard_28 : decode cX8_nextHoard 28 = .ok (.iaload, 1) := by decide +kernel
theorem dX8_nextHoard_29 : decode cX8_nextHoard 29 = .ok (.goto 4, 3) := by decide +kernel
theorem dX8_nextHoard_32 : decode cX8_nextHoard 32 = .ok (.iconst 0, 1) := by decide +kernel
theorem dX8_nextHoard_33 : decode cX8_nextHoard 33 = .ok (.ireturn, 1) := by decide +kernel
theorem dX8_isGrowing_0 : decode cX8_isGrowing 0 = .ok (.aload_n 0, 1) := by decide +kernel
theorem dX8_isGrowing_1 : decode cX8_isGrowing 1 = .ok (.iconst 0, 1) := by decide +kernel
theorem dX8_isGrowing_2 : decode cX8_isGrowing 2 = .ok (.putfield 21, 3) := by decide +kernel
theorem dX8_isGrowing_5 : decode cX8_isGrowing 5 = .ok (.aload_n 0, 1) := by decide +kernel
theorem dX8_isGrowing_6 : decode cX8_isGrowing 6 = .ok (.getfield 67, 3) := by decide +kernel
theorem dX8_isGrowing_9 : decode cX8_isGrowing 9 = .ok (.iconst 1, 1) := by decide +kernel
theorem dX8_isGrowing_10 : decode cX8_isGrowing 10 = .ok (.if_icmp .ne 7, 3) := by decide +kernel
theorem dX8_isGrowing_13 : decode cX8_isGrowing 13 = .ok (.iconst 1, 1) := by decide +kernel
theorem dX8_isGrowing_14 : decode cX8_isGrowing 14 = .ok (.goto 4, 3) := by decide +kernel
theorem dX8_isGrowing_17 : decode cX8_isGrowing 17 = .ok (.iconst 0, 1) := by decide +kernel
theorem dX8_isGrowing_18 : decode cX8_isGrowing 18 = .ok (.ireturn, 1) := by decide +kernel
theorem dX8_canTurnYank_0 : decode cX8_canTurnYank 0 = .ok (.aload_n 0, 1) := by decide +kernel
theorem dX8_canTurnYank_1 : decode cX8_canTurnYank 1 = .ok (.iconst 0, 1) := by decide +kernel
theorem dX8_canTurnYank_2 : decode cX8_canTurnYank 2 = .ok (.putfield 21, 3) := by decide +kernel
theorem dX8_canTurnYank_5 : decode cX8_canTurnYank 5 = .ok (.aload_n 0, 1) := by decide +kernel
theorem dX8_canTurnYank_6 : decode cX8_canTurnYank 6 = .ok (.getfield 67, 3) := by decide +kernel
theorem dX8_canTurnYank_9 : decode cX8_canTurnYank 9 = .ok (.iconst 2, 1) := by decide +kernel
theorem dX8_canTurnYank_10 : decode cX8_canTurnYank 10 = .ok (.if_icmp .ne 7, 3) := by decide +kernel
theorem dX8_canTurnYank_13 : decode cX8_canTurnYank 13 = .ok (.iconst 1, 1) := by decide +kernel
theorem dX8_canTurnYank_14 : decode cX8_canTurnYank 14 = .ok (.goto 4, 3) := by decide +kernel
theorem dX8_canTurnYank_17 : decode cX8_canTurnYank 17 = .ok (.iconst 0, 1) := by decide +kernel
theorem dX8_canTurnYank_18 : decode cX8_canTurnYank 18 = .ok (.ireturn, 1) := by decide +kernel
theorem dX8_lengthIfYanked_0 : decode cX8_lengthIfYanked 0 = .ok (.aload_n 0, 1) := by decide +kernel
theorem dX8_lengthIfYanked_1 : decode cX8_lengthIfYanked 1 = .ok (.aload_n 0, 1) := by decide +kernel
theorem dX8_lengthIfYanked_2 : decode cX8_lengthIfYanked 2 = .ok (.iload_n 1, 1) := by decide +kernel
theorem dX8_lengthIfYanked_3 : decode cX8_lengthIfYanked 3 = .ok (.invokevirtual 199, 3) := by decide +kernel
theorem dX8_lengthIfYanked_6 : decode cX8_lengthIfYanked 6 = .ok (.iconst 1, 1) := by decide +kernel
theorem dX8_lengthIfYanked_7 : decode cX8_lengthIfYanked 7 = .ok (.iconst 1, 1) := by decide +kernel
theorem dX8_lengthIfYanked_8 : decode cX8_lengthIfYanked 8 = .ok (.invokevirtual 146, 3) := by decide +kernel
theorem dX8_lengthIfYanked_11 : decode cX8_lengthIfYanked 11 = .ok (.ifCond .eq 22, 3) := by decide +kernel
theorem dX8_lengthIfYanked_14 : decode cX8_lengthIfYanked 14 = .ok (.aload_n 0, 1) := by decide +kernel
theorem dX8_lengthIfYanked_15 : decode cX8_lengthIfYanked 15 = .ok (.getfield 7, 3) := by decide +kernel
theorem dX8_lengthIfYanked_18 : decode cX8_lengthIfYanked 18 = .ok (.iconst 0, 1) := by decide +kernel
theorem dX8_lengthIfYanked_19 : decode cX8_lengthIfYanked 19 = .ok (.iaload, 1) := by decide +kernel
theorem dX8_lengthIfYanked_20 : decode cX8_lengthIfYanked 20 = .ok (.aload_n 0, 1) := by decide +kernel
theorem dX8_lengthIfYanked_21 : decode cX8_lengthIfYanked 21 = .ok (.getfield 7, 3) := by decide +kernel
theorem dX8_lengthIfYanked_24 : decode cX8_lengthIfYanked 24 = .ok (.bipush 10, 2) := by decide +kernel
theorem dX8_lengthIfYanked_26 : decode cX8_lengthIfYanked 26 = .ok (.iload_n 1, 1) := by decide +kernel
theorem dX8_lengthIfYanked_27 : decode cX8_lengthIfYanked 27 = .ok (.iadd, 1) := by decide +kernel
theorem dX8_lengthIfYanked_28 : decode cX8_lengthIfYanked 28 = .ok (.iaload, 1) := by decide +kernel
theorem dX8_lengthIfYanked_29 : decode cX8_lengthIfYanked 29 = .ok (.iadd, 1) := by decide +kernel
theorem dX8_lengthIfYanked_30 : decode cX8_lengthIfYanked 30 = .ok (.goto 4, 3) := by decide +kernel
theorem dX8_lengthIfYanked_33 : decode cX8_lengthIfYanked 33 = .ok (.iconst 0, 1) := by decide +kernel
theorem dX8_lengthIfYanked_34 : decode cX8_lengthIfYanked 34 = .ok (.ireturn, 1) := by decide +kernel
theorem dX8_sum_0 : decode cX8_sum 0 = .ok (.iconst 0, 1) := by decide +kernel
theorem dX8_sum_1 : decode cX8_sum 1 = .ok (.istore_n 1, 1) := by decide +kernel
theorem dX8_sum_2 : decode cX8_sum 2 = .ok (.iconst 0, 1) := by decide +kernel
theorem dX8_sum_3 : decode cX8_sum 3 = .ok (.istore_n 2, 1) := by decide +kernel
theorem dX8_sum_4 : decode cX8_sum 4 = .ok (.iload_n 2, 1) := by decide +kernel
theorem dX8_sum_5 : decode cX8_sum 5 = .ok (.aload_n 0, 1) := by decide +kernel
theorem dX8_sum_6 : decode cX8_sum 6 = .ok (.getfield 7, 3) := by decide +kernel
theorem dX8_sum_9 : decode cX8_sum 9 = .ok (.iconst 3, 1) := by decide +kernel
theorem dX8_sum_10 : decode cX8_sum 10 = .ok (.iaload, 1) := by decide +kernel
theorem dX8_sum_11 : decode cX8_sum 11 = .ok (.if_icmp .ge 21, 3) := by decide +kernel
theorem dX8_sum_14 : decode cX8_sum 14 = .ok (.iload_n 1, 1) := by decide +kernel
theorem dX8_sum_15 : decode cX8_sum 15 = .ok (.aload_n 0, 1) := by decide +kernel
theorem dX8_sum_16 : decode cX8_sum 16 = .ok (.getfield 7, 3) := by decide +kernel
theorem dX8_sum_19 : decode cX8_sum 19 = .ok (.bipush 10, 2) := by decide +kernel
theorem dX8_sum_21 : decode cX8_sum 21 = .ok (.iload_n 2, 1) := by decide +kernel
theorem dX8_sum_22 : decode cX8_sum 22 = .ok (.iadd, 1) := by decide +kernel
theorem dX8_sum_23 : decode cX8_sum 23 = .ok (.iaload, 1) := by decide +kernel
theorem dX8_sum_24 : decode cX8_sum 24 = .ok (.iadd, 1) := by decide +kernel
theorem dX8_sum_25 : decode cX8_sum 25 = .ok (.istore_n 1, 1) := by decide +kernel
theorem dX8_sum_26 : decode cX8_sum 26 = .ok (.iinc 2 1, 3) := by decide +kernel
theorem dX8_sum_29 : decode cX8_sum 29 = .ok (.goto (-25), 3) := by decide +kernel
theorem dX8_sum_32 : decode cX8_sum 32 = .ok (.iload_n 1, 1) := by decide +kernel
theorem dX8_sum_33 : decode cX8_sum 33 = .ok (.ireturn, 1) := by decide +kernel
theorem dX8_weight_0 : decode cX8_weight 0 = .ok (.aload_n 0, 1) := by decide +kernel
theorem dX8_weight_1 : decode cX8_weight 1 = .ok (.iconst 0, 1) := by decide +kernel
theorem dX8_weight_2 : decode cX8_weight 2 = .ok (.putfield 21, 3) := by decide +kernel
theorem dX8_weight_5 : decode cX8_weight 5 = .ok (.aload_n 0, 1) := by decide +kernel
theorem dX8_weight_6 : decode cX8_weight 6 = .ok (.invokevirtual 202, 3) := by decide +kernel
theorem dX8_weight_9 : decode cX8_weight 9 = .ok (.ireturn, 1) := by decide +kernel
theorem dX8_heavy_0 : decode cX8_heavy 0 = .ok (.iconst 0, 1) := by decide +kernel
theorem dX8_heavy_1 : decode cX8_heavy 1 = .ok (.istore_n 1, 1) := by decide +kernel
theorem dX8_heavy_2 : decode cX8_heavy 2 = .ok (.iconst 1, 1) := by decide +kernel
theorem dX8_heavy_3 : decode cX8_heavy 3 = .ok (.istore_n 2, 1) := by decide +kernel
theorem dX8_heavy_4 : decode cX8_heavy 4 = .ok (.iload_n 2, 1) := by decide +kernel
theorem dX8_heavy_5 : decode cX8_heavy 5 = .ok (.aload_n 0, 1) := by decide +kernel
theorem dX8_heavy_6 : decode cX8_heavy 6 = .ok (.getfield 7, 3) := by decide +kernel
theorem dX8_heavy_9 : decode cX8_heavy 9 = .ok (.iconst 3, 1) := by decide +kernel
theorem dX8_heavy_10 : decode cX8_heavy 10 = .ok (.iaload, 1) := by decide +kernel
theorem dX8_heavy_11 : decode cX8_heavy 11 = .ok (.if_icmp .ge 36, 3) := by decide +kernel
theorem dX8_heavy_14 : decode cX8_heavy 14 = .ok (.aload_n 0, 1) := by decide +kernel
theorem dX8_heavy_15 : decode cX8_heavy 15 = .ok (.getfield 7, 3) := by decide +kernel
theorem dX8_heavy_18 : decode cX8_heavy 18 = .ok (.bipush 10, 2) := by decide +kernel
theorem dX8_heavy_20 : decode cX8_heavy 20 = .ok (.iload_n 2, 1) := by decide +kernel
theorem dX8_heavy_21 : decode cX8_heavy 21 = .ok (.iadd, 1) := by decide +kernel
theorem dX8_heavy_22 : decode cX8_heavy 22 = .ok (.iaload, 1) := by decide +kernel
theorem dX8_heavy_23 : decode cX8_heavy 23 = .ok (.aload_n 0, 1) := by decide +kernel
theorem dX8_heavy_24 : decode cX8_heavy 24 = .ok (.getfield 7, 3) := by decide +kernel
theorem dX8_heavy_27 : decode cX8_heavy 27 = .ok (.bipush 10, 2) := by decide +kernel
theorem dX8_heavy_29 : decode cX8_heavy 29 = .ok (.iload_n 1, 1) := by decide +kernel
theorem dX8_heavy_30 : decode cX8_heavy 30 = .ok (.iadd, 1) := by decide +kernel
theorem dX8_heavy_31 : decode cX8_heavy 31 = .ok (.iaload, 1) := by decide +kernel
theorem dX8_heavy_32 : decode cX8_heavy 32 = .ok (.if_icmp .le 7, 3) := by decide +kernel
theorem dX8_heavy_35 : decode cX8_heavy 35 = .ok (.iload_n 2, 1) := by decide +kernel
theorem dX8_heavy_36 : decode cX8_heavy 36 = .ok (.goto 4, 3) := by decide +kernel
theorem dX8_heavy_39 : decode cX8_heavy 39 = .ok (.iload_n 1, 1) := by decide +kernel
theorem dX8_heavy_40 : decode cX8_heavy 40 = .ok (.istore_n 1, 1) := by decide +kernel
theorem dX8_heavy_41 : decode cX8_heavy 41 = .ok (.iinc 2 1, 3) := by decide +kernel
theorem dX8_heavy_44 : decode cX8_heavy 44 = .ok (.goto (-40), 3) := by decide +kernel
theorem dX8_heavy_47 : decode cX8_heavy 47 = .ok (.iload_n 1, 1) := by decide +kernel
theorem dX8_heavy_48 : decode cX8_heavy 48 = .ok (.ireturn, 1) := by decide +kernel
theorem dX8_heaviest_0 : decode cX8_heaviest 0 = .ok (.aload_n 0, 1) := by decide +kernel
theorem dX8_heaviest_1 : decode cX8_heaviest 1 = .ok (.aload_n 0, 1) := by decide +kernel
theorem dX8_heaviest_2 : decode cX8_heaviest 2 = .ok (.getfield 7, 3) := by decide +kernel
theorem dX8_heaviest_5 : decode cX8_heaviest 5 = .ok (.iconst 3, 1) := by decide +kernel
theorem dX8_heaviest_6 : decode cX8_heaviest 6 = .ok (.iaload, 1) := by decide +kernel
theorem dX8_heaviest_7 : decode cX8_heaviest 7 = .ok (.ifCond .le 7, 3) := by decide +kernel
theorem dX8_heaviest_10 : decode cX8_heaviest 10 = .ok (.iconst 1, 1) := by decide +kernel
theorem dX8_heaviest_11 : decode cX8_heaviest 11 = .ok (.goto 4, 3) := by decide +kernel
theorem dX8_heaviest_14 : decode cX8_heaviest 14 = .ok (.iconst 0, 1) := by decide +kernel
theorem dX8_heaviest_15 : decode cX8_heaviest 15 = .ok (.iconst 1, 1) := by decide +kernel
theorem dX8_heaviest_16 : decode cX8_heaviest 16 = .ok (.iconst 1, 1) := by decide +kernel
theorem dX8_heaviest_17 : decode cX8_heaviest 17 = .ok (.invokevirtual 146, 3) := by decide +kernel
theorem dX8_heaviest_20 : decode cX8_heaviest 20 = .ok (.ifCond .eq 10, 3) := by decide +kernel
theorem dX8_heaviest_23 : decode cX8_heaviest 23 = .ok (.aload_n 0, 1) := by decide +kernel
theorem dX8_heaviest_24 : decode cX8_heaviest 24 = .ok (.invokevirtual 205, 3) := by decide +kernel
theorem dX8_heaviest_27 : decode cX8_heaviest 27 = .ok (.goto 4, 3) := by decide +kernel
theorem dX8_heaviest_30 : decode cX8_heaviest 30 = .ok (.iconst 0, 1) := by decide +kernel
theorem dX8_heaviest_31 : decode cX8_heaviest 31 = .ok (.ireturn, 1) := by decide +kernel
theorem dX8_killed_0 : decode cX8_killed 0 = .ok (.aload_n 0, 1) := by decide +kernel
theorem dX8_killed_1 : decode cX8_killed 1 = .ok (.bipush 6, 2) := by decide +kernel
theorem dX8_killed_3 : decode cX8_killed 3 = .ok (.invokevirtual 187, 3) := by decide +kernel
theorem dX8_killed_6 : decode cX8_killed 6 = .ok (.ireturn, 1) := by decide +kernel
theorem dX8_yanked_0 : decode cX8_yanked 0 = .ok (.aload_n 0, 1) := by decide +kernel
theorem dX8_yanked_1 : decode cX8_yanked 1 = .ok (.bipush 7, 2) := by decide +kernel
theorem dX8_yanked_3 : decode cX8_yanked 3 = .ok (.invokevirtual 187, 3) := by decide +kernel
theorem dX8_yanked_6 : decode cX8_yanked 6 = .ok (.ireturn, 1) := by decide +kernel
theorem dX8_written_0 : decode cX8_written 0 = .ok (.aload_n 0, 1) := by decide +kernel
theorem dX8_written_1 : decode cX8_written 1 = .ok (.bipush 8, 2) := by decide +kernel
theorem dX8_written_3 : decode cX8_written 3 = .ok (.invokevirtual 187, 3) := by decide +kernel
theorem dX8_written_6 : decode cX8_written 6 = .ok (.ireturn, 1) := by decide +kernel
theorem dX8_lostHoards_0 : decode cX8_lostHoards 0 = .ok (.aload_n 0, 1) := by decide +kernel
theorem dX8_lostHoards_1 : decode cX8_lostHoards 1 = .ok (.bipush 9, 2) := by decide +kernel
theorem dX8_lostHoards_3 : decode cX8_lostHoards 3 = .ok (.invokevirtual 187, 3) := by decide +kernel
theorem dX8_lostHoards_6 : decode cX8_lostHoards 6 = .ok (.ireturn, 1) := by decide +kernel
theorem dX8_lengthByAccount_0 : decode cX8_lengthByAccount 0 = .ok (.aload_n 0, 1) := by decide +kernel
theorem dX8_lengthByAccount_1 : decode cX8_lengthByAccount 1 = .ok (.iconst 0, 1) := by decide +kernel
theorem dX8_lengthByAccount_2 : decode cX8_lengthByAccount 2 = .ok (.invokevirtual 187, 3) := by decide +kernel
theorem dX8_lengthByAccount_5 : decode cX8_lengthByAccount 5 = .ok (.ireturn, 1) := by decide +kernel
theorem dX8_meanHoard_0 : decode cX8_meanHoard 0 = .ok (.aload_n 0, 1) := by decide +kernel
theorem dX8_meanHoard_1 : decode cX8_meanHoard 1 = .ok (.iconst 0, 1) := by decide +kernel
theorem dX8_meanHoard_2 : decode cX8_meanHoard 2 = .ok (.putfield 21, 3) := by decide +kernel
theorem dX8_meanHoard_5 : decode cX8_meanHoard 5 = .ok (.aload_n 0, 1) := by decide +kernel
theorem dX8_meanHoard_6 : decode cX8_meanHoard 6 = .ok (.getfield 7, 3) := by decide +kernel
theorem dX8_meanHoard_9 : decode cX8_meanHoard 9 = .ok (.iconst 3, 1) := by decide +kernel
theorem dX8_meanHoard_10 : decode cX8_meanHoard 10 = .ok (.iaload, 1) := by decide +kernel
theorem dX8_meanHoard_11 : decode cX8_meanHoard 11 = .ok (.ifCond .ne 7, 3) := by decide +kernel
theorem dX8_meanHoard_14 : decode cX8_meanHoard 14 = .ok (.dconst 0, 1) := by decide +kernel
theorem dX8_meanHoard_15 : decode cX8_meanHoard 15 = .ok (.goto 16, 3) := by decide +kernel
theorem dX8_meanHoard_18 : decode cX8_meanHoard 18 = .ok (.aload_n 0, 1) := by decide +kernel
theorem dX8_meanHoard_19 : decode cX8_meanHoard 19 = .ok (.invokevirtual 202, 3) := by decide +kernel
theorem dX8_meanHoard_22 : decode cX8_meanHoard 22 = .ok (.i2d, 1) := by decide +kernel
theorem dX8_meanHoard_23 : decode cX8_meanHoard 23 = .ok (.aload_n 0, 1) := by decide +kernel
theorem dX8_meanHoard_24 : decode cX8_meanHoard 24 = .ok (.getfield 7, 3) := by decide +kernel
theorem dX8_meanHoard_27 : decode cX8_meanHoard 27 = .ok (.iconst 3, 1) := by decide +kernel
theorem dX8_meanHoard_28 : decode cX8_meanHoard 28 = .ok (.iaload, 1) := by decide +kernel
theorem dX8_meanHoard_29 : decode cX8_meanHoard 29 = .ok (.i2d, 1) := by decide +kernel
theorem dX8_meanHoard_30 : decode cX8_meanHoard 30 = .ok (.ddiv, 1) := by decide +kernel
theorem dX8_meanHoard_31 : decode cX8_meanHoard 31 = .ok (.dreturn, 1) := by decide +kernel
theorem dX8_bits_0 : decode cX8_bits 0 = .ok (.iload_n 0, 1) := by decide +kernel
theorem dX8_bits_1 : decode cX8_bits 1 = .ok (.ifCond .ne 5, 3) := by decide +kernel
theorem dX8_bits_4 : decode cX8_bits 4 = .ok (.lconst 0, 1) := by decide +kernel
theorem dX8_bits_5 : decode cX8_bits 5 = .ok (.lreturn, 1) := by decide +kernel
theorem dX8_bits_6 : decode cX8_bits 6 = .ok (.iload_n 0, 1) := by decide +kernel
theorem dX8_bits_7 : decode cX8_bits 7 = .ok (.i2l, 1) := by decide +kernel
theorem dX8_bits_8 : decode cX8_bits 8 = .ok (.lstore_n 2, 1) := by decide +kernel
theorem dX8_bits_9 : decode cX8_bits 9 = .ok (.iconst 0, 1) := by decide +kernel
theorem dX8_bits_10 : decode cX8_bits 10 = .ok (.istore 4, 2) := by decide +kernel
theorem dX8_bits_12 : decode cX8_bits 12 = .ok (.lload_n 2, 1) := by decide +kernel
theorem dX8_bits_13 : decode cX8_bits 13 = .ok (.iload_n 1, 1) := by decide +kernel
theorem dX8_bits_14 : decode cX8_bits 14 = .ok (.i2l, 1) := by decide +kernel
theorem dX8_bits_15 : decode cX8_bits 15 = .ok (.ldiv, 1) := by decide +kernel
theorem dX8_bits_16 : decode cX8_bits 16 = .ok (.ldc2_w 208, 3) := by decide +kernel
theorem dX8_bits_19 : decode cX8_bits 19 = .ok (.lcmp, 1) := by decide +kernel
theorem dX8_bits_20 : decode cX8_bits 20 = .ok (.ifCond .ge 15, 3) := by decide +kernel
theorem dX8_bits_23 : decode cX8_bits 23 = .ok (.ldc2_w 210, 3) := by decide +kernel
theorem dX8_bits_26 : decode cX8_bits 26 = .ok (.lload_n 2, 1) := by decide +kernel
theorem dX8_bits_27 : decode cX8_bits 27 = .ok (.lmul, 1) := by decide +kernel
theorem dX8_bits_28 : decode cX8_bits 28 = .ok (.lstore_n 2, 1) := by decide +kernel
theorem dX8_bits_29 : decode cX8_bits 29 = .ok (.iinc 4 1, 3) := by decide +kernel
theorem dX8_bits_32 : decode cX8_bits 32 = .ok (.goto (-20), 3) := by decide +kernel
theorem dX8_bits_35 : decode cX8_bits 35 = .ok (.lload_n 2, 1) := by decide +kernel
theorem dX8_bits_36 : decode cX8_bits 36 = .ok (.iload_n 1, 1) := by decide +kernel
theorem dX8_bits_37 : decode cX8_bits 37 = .ok (.i2l, 1) := by decide +kernel
theorem dX8_bits_38 : decode cX8_bits 38 = .ok (.ldiv, 1) := by decide +kernel
theorem dX8_bits_39 : decode cX8_bits 39 = .ok (.lstore 5, 2) := by decide +kernel
theorem dX8_bits_41 : decode cX8_bits 41 = .ok (.lload_n 2, 1) := by decide +kernel
theorem dX8_bits_42 : decode cX8_bits 42 = .ok (.iload_n 1, 1) := by decide +kernel
theorem dX8_bits_43 : decode cX8_bits 43 = .ok (.i2l, 1) := by decide +kernel
theorem dX8_bits_44 : decode cX8_bits 44 = .ok (.lrem, 1) := by decide +kernel
theorem dX8_bits_45 : decode cX8_bits 45 = .ok (.ldc2_w 210, 3) := by decide +kernel
theorem dX8_bits_48 : decode cX8_bits 48 = .ok (.lmul, 1) := by decide +kernel
theorem dX8_bits_49 : decode cX8_bits 49 = .ok (.lstore 7, 2) := by decide +kernel
theorem dX8_bits_51 : decode cX8_bits 51 = .ok (.lload 5, 2) := by decide +kernel
theorem dX8_bits_53 : decode cX8_bits 53 = .ok (.lload 7, 2) := by decide +kernel
theorem dX8_bits_55 : decode cX8_bits 55 = .ok (.iload_n 1, 1) := by decide +kernel
theorem dX8_bits_56 : decode cX8_bits 56 = .ok (.i2l, 1) := by decide +kernel
theorem dX8_bits_57 : decode cX8_bits 57 = .ok (.lcmp, 1) := by decide +kernel
theorem dX8_bits_58 : decode cX8_bits 58 = .ok (.ifCond .gt 22, 3) := by decide +kernel
theorem dX8_bits_61 : decode cX8_bits 61 = .ok (.lload 7, 2) := by decide +kernel
theorem dX8_bits_63 : decode cX8_bits 63 = .ok (.iload_n 1, 1) := by decide +kernel
theorem dX8_bits_64 : decode cX8_bits 64 = .ok (.i2l, 1) := by decide +kernel
theorem dX8_bits_65 : decode cX8_bits 65 = .ok (.lcmp, 1) := by decide +kernel
theorem dX8_bits_66 : decode cX8_bits 66 = .ok (.ifCond .ne 18, 3) := by decide +kernel
theorem dX8_bits_69 : decode cX8_bits 69 = .ok (.lload 5, 2) := by decide +kernel
theorem dX8_bits_71 : decode cX8_bits 71 = .ok (.ldc2_w 210, 3) := by decide +kernel
theorem dX8_bits_74 : decode cX8_bits 74 = .ok (.lrem, 1) := by decide +kernel
theorem dX8_bits_75 : decode cX8_bits 75 = .ok (.lconst 1, 1) := by decide +kernel
theorem dX8_bits_76 : decode cX8_bits 76 = .ok (.lcmp, 1) := by decide +kernel
theorem dX8_bits_77 : decode cX8_bits 77 = .ok (.ifCond .ne 7, 3) := by decide +kernel
theorem dX8_bits_80 : decode cX8_bits 80 = .ok (.lconst 1, 1) := by decide +kernel
theorem dX8_bits_81 : decode cX8_bits 81 = .ok (.goto 4, 3) := by decide +kernel
theorem dX8_bits_84 : decode cX8_bits 84 = .ok (.lconst 0, 1) := by decide +kernel
theorem dX8_bits_85 : decode cX8_bits 85 = .ok (.ladd, 1) := by decide +kernel
theorem dX8_bits_86 : decode cX8_bits 86 = .ok (.lstore 5, 2) := by decide +kernel
theorem dX8_bits_88 : decode cX8_bits 88 = .ok (.lload 5, 2) := by decide +kernel
theorem dX8_bits_90 : decode cX8_bits 90 = .ok (.ldc2_w 212, 3) := by decide +kernel
theorem dX8_bits_93 : decode cX8_bits 93 = .ok (.lcmp, 1) := by decide +kernel
theorem dX8_bits_94 : decode cX8_bits 94 = .ok (.ifCond .ne 11, 3) := by decide +kernel
theorem dX8_bits_97 : decode cX8_bits 97 = .ok (.ldc2_w 208, 3) := by decide +kernel
theorem dX8_bits_100 : decode cX8_bits 100 = .ok (.lstore 5, 2) := by decide +kernel
theorem dX8_bits_102 : decode cX8_bits 102 = .ok (.iinc 4 (-1), 3) := by decide +kernel
theorem dX8_bits_105 : decode cX8_bits 105 = .ok (.sipush 1075, 3) := by decide +kernel
theorem dX8_bits_108 : decode cX8_bits 108 = .ok (.iload 4, 2) := by decide +kernel
theorem dX8_bits_110 : decode cX8_bits 110 = .ok (.isub, 1) := by decide +kernel
theorem dX8_bits_111 : decode cX8_bits 111 = .ok (.i2l, 1) := by decide +kernel
theorem dX8_bits_112 : decode cX8_bits 112 = .ok (.ldc2_w 208, 3) := by decide +kernel
theorem dX8_bits_115 : decode cX8_bits 115 = .ok (.lmul, 1) := by decide +kernel
theorem dX8_bits_116 : decode cX8_bits 116 = .ok (.lload 5, 2) := by decide +kernel
theorem dX8_bits_118 : decode cX8_bits 118 = .ok (.ldc2_w 208, 3) := by decide +kernel
theorem dX8_bits_121 : decode cX8_bits 121 = .ok (.lsub, 1) := by decide +kernel
theorem dX8_bits_122 : decode cX8_bits 122 = .ok (.ladd, 1) := by decide +kernel
theorem dX8_bits_123 : decode cX8_bits 123 = .ok (.lreturn, 1) := by decide +kernel
theorem dX8_hashOfScroll_0 : decode cX8_hashOfScroll 0 = .ok (.ldc2_w 214, 3) := by decide +kernel
theorem dX8_hashOfScroll_3 : decode cX8_hashOfScroll 3 = .ok (.lstore_n 1, 1) := by decide +kernel
theorem dX8_hashOfScroll_4 : decode cX8_hashOfScroll 4 = .ok (.ldc2_w 216, 3) := by decide +kernel
theorem dX8_hashOfScroll_7 : decode cX8_hashOfScroll 7 = .ok (.lload_n 1, 1) := by decide +kernel
theorem dX8_hashOfScroll_8 : decode cX8_hashOfScroll 8 = .ok (.lmul, 1) := by decide +kernel
theorem dX8_hashOfScroll_9 : decode cX8_hashOfScroll 9 = .ok (.aload_n 0, 1) := by decide +kernel
theorem dX8_hashOfScroll_10 : decode cX8_hashOfScroll 10 = .ok (.getfield 7, 3) := by decide +kernel
theorem dX8_hashOfScroll_13 : decode cX8_hashOfScroll 13 = .ok (.iconst 0, 1) := by decide +kernel
theorem dX8_hashOfScroll_14 : decode cX8_hashOfScroll 14 = .ok (.iaload, 1) := by decide +kernel
theorem dX8_hashOfScroll_15 : decode cX8_hashOfScroll 15 = .ok (.i2l, 1) := by decide +kernel
theorem dX8_hashOfScroll_16 : decode cX8_hashOfScroll 16 = .ok (.ladd, 1) := by decide +kernel
theorem dX8_hashOfScroll_17 : decode cX8_hashOfScroll 17 = .ok (.lstore_n 1, 1) := by decide +kernel
theorem dX8_hashOfScroll_18 : decode cX8_hashOfScroll 18 = .ok (.iconst 0, 1) := by decide +kernel
theorem dX8_hashOfScroll_19 : decode cX8_hashOfScroll 19 = .ok (.istore_n 3, 1) := by decide +kernel
theorem dX8_hashOfScroll_20 : decode cX8_hashOfScroll 20 = .ok (.iload_n 3, 1) := by decide +kernel
theorem dX8_hashOfScroll_21 : decode cX8_hashOfScroll 21 = .ok (.aload_n 0, 1) := by decide +kernel
theorem dX8_hashOfScroll_22 : decode cX8_hashOfScroll 22 = .ok (.getfield 7, 3) := by decide +kernel
theorem dX8_hashOfScroll_25 : decode cX8_hashOfScroll 25 = .ok (.iconst 0, 1) := by decide +kernel
theorem dX8_hashOfScroll_26 : decode cX8_hashOfScroll 26 = .ok (.iaload, 1) := by decide +kernel
theorem dX8_hashOfScroll_27 : decode cX8_hashOfScroll 27 = .ok (.if_icmp .ge 22, 3) := by decide +kernel
theorem dX8_hashOfScroll_30 : decode cX8_hashOfScroll 30 = .ok (.ldc2_w 216, 3) := by decide +kernel
theorem dX8_hashOfScroll_33 : decode cX8_hashOfScroll 33 = .ok (.lload_n 1, 1) := by decide +kernel
theorem dX8_hashOfScroll_34 : decode cX8_hashOfScroll 34 = .ok (.lmul, 1) := by decide +kernel
theorem dX8_hashOfScroll_35 : decode cX8_hashOfScroll 35 = .ok (.aload_n 0, 1) := by decide +kernel
theorem dX8_hashOfScroll_36 : decode cX8_hashOfScroll 36 = .ok (.iload_n 3, 1) := by decide +kernel
theorem dX8_hashOfScroll_37 : decode cX8_hashOfScroll 37 = .ok (.invokevirtual 36, 3) := by decide +kernel
theorem dX8_hashOfScroll_40 : decode cX8_hashOfScroll 40 = .ok (.i2l, 1) := by decide +kernel
theorem dX8_hashOfScroll_41 : decode cX8_hashOfScroll 41 = .ok (.ladd, 1) := by decide +kernel
theorem dX8_hashOfScroll_42 : decode cX8_hashOfScroll 42 = .ok (.lstore_n 1, 1) := by decide +kernel
theorem dX8_hashOfScroll_43 : decode cX8_hashOfScroll 43 = .ok (.iinc 3 1, 3) := by decide +kernel
theorem dX8_hashOfScroll_46 : decode cX8_hashOfScroll 46 = .ok (.goto (-26), 3) := by decide +kernel
theorem dX8_hashOfScroll_49 : decode cX8_hashOfScroll 49 = .ok (.ldc2_w 216, 3) := by decide +kernel
theorem dX8_hashOfScroll_52 : decode cX8_hashOfScroll 52 = .ok (.lload_n 1, 1) := by decide +kernel
theorem dX8_hashOfScroll_53 : decode cX8_hashOfScroll 53 = .ok (.lmul, 1) := by decide +kernel
theorem dX8_hashOfScroll_54 : decode cX8_hashOfScroll 54 = .ok (.aload_n 0, 1) := by decide +kernel
theorem dX8_hashOfScroll_55 : decode cX8_hashOfScroll 55 = .ok (.getfield 7, 3) := by decide +kernel
theorem dX8_hashOfScroll_58 : decode cX8_hashOfScroll 58 = .ok (.iconst 1, 1) := by decide +kernel
theorem dX8_hashOfScroll_59 : decode cX8_hashOfScroll 59 = .ok (.iaload, 1) := by decide +kernel
theorem dX8_hashOfScroll_60 : decode cX8_hashOfScroll 60 = .ok (.i2l, 1) := by decide +kernel
theorem dX8_hashOfScroll_61 : decode cX8_hashOfScroll 61 = .ok (.ladd, 1) := by decide +kernel
theorem dX8_hashOfScroll_62 : decode cX8_hashOfScroll 62 = .ok (.lstore_n 1, 1) := by decide +kernel
theorem dX8_hashOfScroll_63 : decode cX8_hashOfScroll 63 = .ok (.ldc2_w 216, 3) := by decide +kernel
theorem dX8_hashOfScroll_66 : decode cX8_hashOfScroll 66 = .ok (.lload_n 1, 1) := by decide +kernel
theorem dX8_hashOfScroll_67 : decode cX8_hashOfScroll 67 = .ok (.lmul, 1) := by decide +kernel
theorem dX8_hashOfScroll_68 : decode cX8_hashOfScroll 68 = .ok (.aload_n 0, 1) := by decide +kernel
theorem dX8_hashOfScroll_69 : decode cX8_hashOfScroll 69 = .ok (.getfield 7, 3) := by decide +kernel
theorem dX8_hashOfScroll_72 : decode cX8_hashOfScroll 72 = .ok (.iconst 2, 1) := by decide +kernel
theorem dX8_hashOfScroll_73 : decode cX8_hashOfScroll 73 = .ok (.iaload, 1) := by decide +kernel
theorem dX8_hashOfScroll_74 : decode cX8_hashOfScroll 74 = .ok (.i2l, 1) := by decide +kernel
theorem dX8_hashOfScroll_75 : decode cX8_hashOfScroll 75 = .ok (.ladd, 1) := by decide +kernel
theorem dX8_hashOfScroll_76 : decode cX8_hashOfScroll 76 = .ok (.lconst 1, 1) := by decide +kernel
theorem dX8_hashOfScroll_77 : decode cX8_hashOfScroll 77 = .ok (.ladd, 1) := by decide +kernel
theorem dX8_hashOfScroll_78 : decode cX8_hashOfScroll 78 = .ok (.lstore_n 1, 1) := by decide +kernel
theorem dX8_hashOfScroll_79 : decode cX8_hashOfScroll 79 = .ok (.ldc2_w 216, 3) := by decide +kernel
theorem dX8_hashOfScroll_82 : decode cX8_hashOfScroll 82 = .ok (.lload_n 1, 1) := by decide +kernel
theorem dX8_hashOfScroll_83 : decode cX8_hashOfScroll 83 = .ok (.lmul, 1) := by decide +kernel
theorem dX8_hashOfScroll_84 : decode cX8_hashOfScroll 84 = .ok (.aload_n 0, 1) := by decide +kernel
theorem dX8_hashOfScroll_85 : decode cX8_hashOfScroll 85 = .ok (.getfield 7, 3) := by decide +kernel
theorem dX8_hashOfScroll_88 : decode cX8_hashOfScroll 88 = .ok (.iconst 2, 1) := by decide +kernel
theorem dX8_hashOfScroll_89 : decode cX8_hashOfScroll 89 = .ok (.iaload, 1) := by decide +kernel
theorem dX8_hashOfScroll_90 : decode cX8_hashOfScroll 90 = .ok (.ifCond .ge 7, 3) := by decide +kernel
theorem dX8_hashOfScroll_93 : decode cX8_hashOfScroll 93 = .ok (.iconst 0, 1) := by decide +kernel
theorem dX8_hashOfScroll_94 : decode cX8_hashOfScroll 94 = .ok (.goto 9, 3) := by decide +kernel
theorem dX8_hashOfScroll_97 : decode cX8_hashOfScroll 97 = .ok (.aload_n 0, 1) := by decide +kernel
theorem dX8_hashOfScroll_98 : decode cX8_hashOfScroll 98 = .ok (.invokevirtual 84, 3) := by decide +kernel
theorem dX8_hashOfScroll_101 : decode cX8_hashOfScroll 101 = .ok (.iconst 1, 1) := by decide +kernel
theorem dX8_hashOfScroll_102 : decode cX8_hashOfScroll 102 = .ok (.iadd, 1) := by decide +kernel
theorem dX8_hashOfScroll_103 : decode cX8_hashOfScroll 103 = .ok (.i2l, 1) := by decide +kernel
theorem dX8_hashOfScroll_104 : decode cX8_hashOfScroll 104 = .ok (.ladd, 1) := by decide +kernel
theorem dX8_hashOfScroll_105 : decode cX8_hashOfScroll 105 = .ok (.lstore_n 1, 1) := by decide +kernel
theorem dX8_hashOfScroll_106 : decode cX8_hashOfScroll 106 = .ok (.ldc2_w 216, 3) := by decide +kernel
theorem dX8_hashOfScroll_109 : decode cX8_hashOfScroll 109 = .ok (.lload_n 1, 1) := by decide +kernel
theorem dX8_hashOfScroll_110 : decode cX8_hashOfScroll 110 = .ok (.lmul, 1) := by decide +kernel
theorem dX8_hashOfScroll_111 : decode cX8_hashOfScroll 111 = .ok (.aload_n 0, 1) := by decide +kernel
theorem dX8_hashOfScroll_112 : decode cX8_hashOfScroll 112 = .ok (.aload_n 0, 1) := by decide +kernel
theorem dX8_hashOfScroll_113 : decode cX8_hashOfScroll 113 = .ok (.getfield 7, 3) := by decide +kernel
theorem dX8_hashOfScroll_116 : decode cX8_hashOfScroll 116 = .ok (.iconst 0, 1) := by decide +kernel
theorem dX8_hashOfScroll_117 : decode cX8_hashOfScroll 117 = .ok (.iaload, 1) := by decide +kernel
theorem dX8_hashOfScroll_118 : decode cX8_hashOfScroll 118 = .ok (.invokevirtual 190, 3) := by decide +kernel
theorem dX8_hashOfScroll_121 : decode cX8_hashOfScroll 121 = .ok (.i2l, 1) := by decide +kernel
theorem dX8_hashOfScroll_122 : decode cX8_hashOfScroll 122 = .ok (.ladd, 1) := by decide +kernel
theorem dX8_hashOfScroll_123 : decode cX8_hashOfScroll 123 = .ok (.lconst 1, 1) := by decide +kernel
theorem dX8_hashOfScroll_124 : decode cX8_hashOfScroll 124 = .ok (.ladd, 1) := by decide +kernel
theorem dX8_hashOfScroll_125 : decode cX8_hashOfScroll 125 = .ok (.lstore_n 1, 1) := by decide +kernel
theorem dX8_hashOfScroll_126 : decode cX8_hashOfScroll 126 = .ok (.ldc2_w 216, 3) := by decide +kernel
theorem dX8_hashOfScroll_129 : decode cX8_hashOfScroll 129 = .ok (.lload_n 1, 1) := by decide +kernel
theorem dX8_hashOfScroll_130 : decode cX8_hashOfScroll 130 = .ok (.lmul, 1) := by decide +kernel
theorem dX8_hashOfScroll_131 : decode cX8_hashOfScroll 131 = .ok (.aload_n 0, 1) := by decide +kernel
theorem dX8_hashOfScroll_132 : decode cX8_hashOfScroll 132 = .ok (.aload_n 0, 1) := by decide +kernel
theorem dX8_hashOfScroll_133 : decode cX8_hashOfScroll 133 = .ok (.getfield 7, 3) := by decide +kernel
theorem dX8_hashOfScroll_136 : decode cX8_hashOfScroll 136 = .ok (.iconst 0, 1) := by decide +kernel
theorem dX8_hashOfScroll_137 : decode cX8_hashOfScroll 137 = .ok (.iaload, 1) := by decide +kernel
theorem dX8_hashOfScroll_138 : decode cX8_hashOfScroll 138 = .ok (.invokevirtual 190, 3) := by decide +kernel
theorem dX8_hashOfScroll_141 : decode cX8_hashOfScroll 141 = .ok (.i2l, 1) := by decide +kernel
theorem dX8_hashOfScroll_142 : decode cX8_hashOfScroll 142 = .ok (.ladd, 1) := by decide +kernel
theorem dX8_hashOfScroll_143 : decode cX8_hashOfScroll 143 = .ok (.lconst 1, 1) := by decide +kernel
theorem dX8_hashOfScroll_144 : decode cX8_hashOfScroll 144 = .ok (.ladd, 1) := by decide +kernel
theorem dX8_hashOfScroll_145 : decode cX8_hashOfScroll 145 = .ok (.lstore_n 1, 1) := by decide +kernel
theorem dX8_hashOfScroll_146 : decode cX8_hashOfScroll 146 = .ok (.ldc2_w 216, 3) := by decide +kernel
theorem dX8_hashOfScroll_149 : decode cX8_hashOfScroll 149 = .ok (.lload_n 1, 1) := by decide +kernel
theorem dX8_hashOfScroll_150 : decode cX8_hashOfScroll 150 = .ok (.lmul, 1) := by decide +kernel
theorem dX8_hashOfScroll_151 : decode cX8_hashOfScroll 151 = .ok (.aload_n 0, 1) := by decide +kernel
theorem dX8_hashOfScroll_152 : decode cX8_hashOfScroll 152 = .ok (.aload_n 0, 1) := by decide +kernel
theorem dX8_hashOfScroll_153 : decode cX8_hashOfScroll 153 = .ok (.getfield 7, 3) := by decide +kernel
theorem dX8_hashOfScroll_156 : decode cX8_hashOfScroll 156 = .ok (.iconst 1, 1) := by decide +kernel
theorem dX8_hashOfScroll_157 : decode cX8_hashOfScroll 157 = .ok (.iaload, 1) := by decide +kernel
theorem dX8_hashOfScroll_158 : decode cX8_hashOfScroll 158 = .ok (.invokevirtual 190, 3) := by decide +kernel
theorem dX8_hashOfScroll_161 : decode cX8_hashOfScroll 161 = .ok (.i2l, 1) := by decide +kernel
theorem dX8_hashOfScroll_162 : decode cX8_hashOfScroll 162 = .ok (.ladd, 1) := by decide +kernel
theorem dX8_hashOfScroll_163 : decode cX8_hashOfScroll 163 = .ok (.lstore_n 1, 1) := by decide +kernel
theorem dX8_hashOfScroll_164 : decode cX8_hashOfScroll 164 = .ok (.ldc2_w 216, 3) := by decide +kernel
theorem dX8_hashOfScroll_167 : decode cX8_hashOfScroll 167 = .ok (.lload_n 1, 1) := by decide +kernel
theorem dX8_hashOfScroll_168 : decode cX8_hashOfScroll 168 = .ok (.lmul, 1) := by decide +kernel
theorem dX8_hashOfScroll_169 : decode cX8_hashOfScroll 169 = .ok (.aload_n 0, 1) := by decide +kernel
theorem dX8_hashOfScroll_170 : decode cX8_hashOfScroll 170 = .ok (.getfield 7, 3) := by decide +kernel
theorem dX8_hashOfScroll_173 : decode cX8_hashOfScroll 173 = .ok (.iconst 1, 1) := by decide +kernel
theorem dX8_hashOfScroll_174 : decode cX8_hashOfScroll 174 = .ok (.iaload, 1) := by decide +kernel
theorem dX8_hashOfScroll_175 : decode cX8_hashOfScroll 175 = .ok (.i2l, 1) := by decide +kernel
theorem dX8_hashOfScroll_176 : decode cX8_hashOfScroll 176 = .ok (.ladd, 1) := by decide +kernel
theorem dX8_hashOfScroll_177 : decode cX8_hashOfScroll 177 = .ok (.aload_n 0, 1) := by decide +kernel
theorem dX8_hashOfScroll_178 : decode cX8_hashOfScroll 178 = .ok (.aload_n 0, 1) := by decide +kernel
theorem dX8_hashOfScroll_179 : decode cX8_hashOfScroll 179 = .ok (.getfield 7, 3) := by decide +kernel
theorem dX8_hashOfScroll_182 : decode cX8_hashOfScroll 182 = .ok (.iconst 1, 1) := by decide +kernel
theorem dX8_hashOfScroll_183 : decode cX8_hashOfScroll 183 = .ok (.iaload, 1) := by decide +kernel
theorem dX8_hashOfScroll_184 : decode cX8_hashOfScroll 184 = .ok (.invokevirtual 61, 3) := by decide +kernel
theorem dX8_hashOfScroll_187 : decode cX8_hashOfScroll 187 = .ok (.i2l, 1) := by decide +kernel
theorem dX8_hashOfScroll_188 : decode cX8_hashOfScroll 188 = .ok (.lsub, 1) := by decide +kernel
theorem dX8_hashOfScroll_189 : decode cX8_hashOfScroll 189 = .ok (.lstore_n 1, 1) := by decide +kernel
theorem dX8_hashOfScroll_190 : decode cX8_hashOfScroll 190 = .ok (.ldc2_w 216, 3) := by decide +kernel
theorem dX8_hashOfScroll_193 : decode cX8_hashOfScroll 193 = .ok (.lload_n 1, 1) := by decide +kernel
theorem dX8_hashOfScroll_194 : decode cX8_hashOfScroll 194 = .ok (.lmul, 1) := by decide +kernel
theorem dX8_hashOfScroll_195 : decode cX8_hashOfScroll 195 = .ok (.aload_n 0, 1) := by decide +kernel
theorem dX8_hashOfScroll_196 : decode cX8_hashOfScroll 196 = .ok (.invokevirtual 193, 3) := by decide +kernel
theorem dX8_hashOfScroll_199 : decode cX8_hashOfScroll 199 = .ok (.i2l, 1) := by decide +kernel
theorem dX8_hashOfScroll_200 : decode cX8_hashOfScroll 200 = .ok (.ladd, 1) := by decide +kernel
theorem dX8_hashOfScroll_201 : decode cX8_hashOfScroll 201 = .ok (.lstore_n 1, 1) := by decide +kernel
theorem dX8_hashOfScroll_202 : decode cX8_hashOfScroll 202 = .ok (.ldc2_w 216, 3) := by decide +kernel
theorem dX8_hashOfScroll_205 : decode cX8_hashOfScroll 205 = .ok (.lload_n 1, 1) := by decide +kernel
theorem dX8_hashOfScroll_206 : decode cX8_hashOfScroll 206 = .ok (.lmul, 1) := by decide +kernel
theorem dX8_hashOfScroll_207 : decode cX8_hashOfScroll 207 = .ok (.aload_n 0, 1) := by decide +kernel
theorem dX8_hashOfScroll_208 : decode cX8_hashOfScroll 208 = .ok (.invokevirtual 196, 3) := by decide +kernel
theorem dX8_hashOfScroll_211 : decode cX8_hashOfScroll 211 = .ok (.i2l, 1) := by decide +kernel
theorem dX8_hashOfScroll_212 : decode cX8_hashOfScroll 212 = .ok (.ladd, 1) := by decide +kernel
theorem dX8_hashOfScroll_213 : decode cX8_hashOfScroll 213 = .ok (.lstore_n 1, 1) := by decide +kernel
theorem dX8_hashOfScroll_214 : decode cX8_hashOfScroll 214 = .ok (.ldc2_w 216, 3) := by decide +kernel
theorem dX8_hashOfScroll_217 : decode cX8_hashOfScroll 217 = .ok (.lload_n 1, 1) := by decide +kernel
theorem dX8_hashOfScroll_218 : decode cX8_hashOfScroll 218 = .ok (.lmul, 1) := by decide +kernel
theorem dX8_hashOfScroll_219 : decode cX8_hashOfScroll 219 = .ok (.aload_n 0, 1) := by decide +kernel
theorem dX8_hashOfScroll_220 : decode cX8_hashOfScroll 220 = .ok (.invokevirtual 196, 3) := by decide +kernel
theorem dX8_hashOfScroll_223 : decode cX8_hashOfScroll 223 = .ok (.i2l, 1) := by decide +kernel
theorem dX8_hashOfScroll_224 : decode cX8_hashOfScroll 224 = .ok (.ladd, 1) := by decide +kernel
theorem dX8_hashOfScroll_225 : decode cX8_hashOfScroll 225 = .ok (.lstore_n 1, 1) := by decide +kernel
theorem dX8_hashOfScroll_226 : decode cX8_hashOfScroll 226 = .ok (.lload_n 1, 1) := by decide +kernel
theorem dX8_hashOfScroll_227 : decode cX8_hashOfScroll 227 = .ok (.lreturn, 1) := by decide +kernel
theorem dX8_digest_0 : decode cX8_digest 0 = .ok (.aload_n 0, 1) := by decide +kernel
theorem dX8_digest_1 : decode cX8_digest 1 = .ok (.invokevirtual 218, 3) := by decide +kernel
theorem dX8_digest_4 : decode cX8_digest 4 = .ok (.lstore_n 1, 1) := by decide +kernel
theorem dX8_digest_5 : decode cX8_digest 5 = .ok (.ldc2_w 216, 3) := by decide +kernel
theorem dX8_digest_8 : decode cX8_digest 8 = .ok (.lload_n 1, 1) := by decide +kernel
theorem dX8_digest_9 : decode cX8_digest 9 = .ok (.lmul, 1) := by decide +kernel
theorem dX8_digest_10 : decode cX8_digest 10 = .ok (.aload_n 0, 1) := by decide +kernel
theorem dX8_digest_11 : decode cX8_digest 11 = .ok (.getfield 7, 3) := by decide +kernel
theorem dX8_digest_14 : decode cX8_digest 14 = .ok (.iconst 3, 1) := by decide +kernel
theorem dX8_digest_15 : decode cX8_digest 15 = .ok (.iaload, 1) := by decide +kernel
theorem dX8_digest_16 : decode cX8_digest 16 = .ok (.i2l, 1) := by decide +kernel
theorem dX8_digest_17 : decode cX8_digest 17 = .ok (.ladd, 1) := by decide +kernel
theorem dX8_digest_18 : decode cX8_digest 18 = .ok (.lstore_n 1, 1) := by decide +kernel
theorem dX8_digest_19 : decode cX8_digest 19 = .ok (.ldc2_w 216, 3) := by decide +kernel
theorem dX8_digest_22 : decode cX8_digest 22 = .ok (.lload_n 1, 1) := by decide +kernel
theorem dX8_digest_23 : decode cX8_digest 23 = .ok (.lmul, 1) := by decide +kernel
theorem dX8_digest_24 : decode cX8_digest 24 = .ok (.aload_n 0, 1) := by decide +kernel
theorem dX8_digest_25 : decode cX8_digest 25 = .ok (.getfield 7, 3) := by decide +kernel
theorem dX8_digest_28 : decode cX8_digest 28 = .ok (.iconst 5, 1) := by decide +kernel
theorem dX8_digest_29 : decode cX8_digest 29 = .ok (.iaload, 1) := by decide +kernel
theorem dX8_digest_30 : decode cX8_digest 30 = .ok (.i2l, 1) := by decide +kernel
theorem dX8_digest_31 : decode cX8_digest 31 = .ok (.ladd, 1) := by decide +kernel
theorem dX8_digest_32 : decode cX8_digest 32 = .ok (.lstore_n 1, 1) := by decide +kernel
theorem dX8_digest_33 : decode cX8_digest 33 = .ok (.iconst 0, 1) := by decide +kernel
theorem dX8_digest_34 : decode cX8_digest 34 = .ok (.istore_n 3, 1) := by decide +kernel
theorem dX8_digest_35 : decode cX8_digest 35 = .ok (.iload_n 3, 1) := by decide +kernel
theorem dX8_digest_36 : decode cX8_digest 36 = .ok (.aload_n 0, 1) := by decide +kernel
theorem dX8_digest_37 : decode cX8_digest 37 = .ok (.getfield 7, 3) := by decide +kernel
theorem dX8_digest_40 : decode cX8_digest 40 = .ok (.iconst 3, 1) := by decide +kernel
theorem dX8_digest_41 : decode cX8_digest 41 = .ok (.iaload, 1) := by decide +kernel
theorem dX8_digest_42 : decode cX8_digest 42 = .ok (.if_icmp .ge 99, 3) := by decide +kernel
theorem dX8_digest_45 : decode cX8_digest 45 = .ok (.ldc2_w 216, 3) := by decide +kernel
theorem dX8_digest_48 : decode cX8_digest 48 = .ok (.lload_n 1, 1) := by decide +kernel
theorem dX8_digest_49 : decode cX8_digest 49 = .ok (.lmul, 1) := by decide +kernel
theorem dX8_digest_50 : decode cX8_digest 50 = .ok (.aload_n 0, 1) := by decide +kernel
theorem dX8_digest_51 : decode cX8_digest 51 = .ok (.getfield 7, 3) := by decide +kernel
theorem dX8_digest_54 : decode cX8_digest 54 = .ok (.bipush 10, 2) := by decide +kernel
theorem dX8_digest_56 : decode cX8_digest 56 = .ok (.iload_n 3, 1) := by decide +kernel
theorem dX8_digest_57 : decode cX8_digest 57 = .ok (.iadd, 1) := by decide +kernel
theorem dX8_digest_58 : decode cX8_digest 58 = .ok (.iaload, 1) := by decide +kernel
theorem dX8_digest_59 : decode cX8_digest 59 = .ok (.i2l, 1) := by decide +kernel
theorem dX8_digest_60 : decode cX8_digest 60 = .ok (.ladd, 1) := by decide +kernel
theorem dX8_digest_61 : decode cX8_digest 61 = .ok (.lstore_n 1, 1) := by decide +kernel
theorem dX8_digest_62 : decode cX8_digest 62 = .ok (.iconst 0, 1) := by decide +kernel
theorem dX8_digest_63 : decode cX8_digest 63 = .ok (.istore 4, 2) := by decide +kernel
theorem dX8_digest_65 : decode cX8_digest 65 = .ok (.iload 4, 2) := by decide +kernel
theorem dX8_digest_67 : decode cX8_digest 67 = .ok (.aload_n 0, 1) := by decide +kernel
theorem dX8_digest_68 : decode cX8_digest 68 = .ok (.getfield 7, 3) := by decide +kernel
theorem dX8_digest_71 : decode cX8_digest 71 = .ok (.bipush 10, 2) := by decide +kernel
theorem dX8_digest_73 : decode cX8_digest 73 = .ok (.iload_n 3, 1) := by decide +kernel
theorem dX8_digest_74 : decode cX8_digest 74 = .ok (.iadd, 1) := by decide +kernel
theorem dX8_digest_75 : decode cX8_digest 75 = .ok (.iaload, 1) := by decide +kernel
theorem dX8_digest_76 : decode cX8_digest 76 = .ok (.if_icmp .ge 34, 3) := by decide +kernel
theorem dX8_digest_79 : decode cX8_digest 79 = .ok (.ldc2_w 216, 3) := by decide +kernel
theorem dX8_digest_82 : decode cX8_digest 82 = .ok (.lload_n 1, 1) := by decide +kernel
theorem dX8_digest_83 : decode cX8_digest 83 = .ok (.lmul, 1) := by decide +kernel
theorem dX8_digest_84 : decode cX8_digest 84 = .ok (.aload_n 0, 1) := by decide +kernel
theorem dX8_digest_85 : decode cX8_digest 85 = .ok (.getfield 7, 3) := by decide +kernel
theorem dX8_digest_88 : decode cX8_digest 88 = .ok (.sipush 218, 3) := by decide +kernel
theorem dX8_digest_91 : decode cX8_digest 91 = .ok (.sipush 200, 3) := by decide +kernel
theorem dX8_digest_94 : decode cX8_digest 94 = .ok (.iload_n 3, 1) := by decide +kernel
theorem dX8_digest_95 : decode cX8_digest 95 = .ok (.imul, 1) := by decide +kernel
theorem dX8_digest_96 : decode cX8_digest 96 = .ok (.iadd, 1) := by decide +kernel
theorem dX8_digest_97 : decode cX8_digest 97 = .ok (.iload 4, 2) := by decide +kernel
theorem dX8_digest_99 : decode cX8_digest 99 = .ok (.iadd, 1) := by decide +kernel
theorem dX8_digest_100 : decode cX8_digest 100 = .ok (.iaload, 1) := by decide +kernel
theorem dX8_digest_101 : decode cX8_digest 101 = .ok (.i2l, 1) := by decide +kernel
theorem dX8_digest_102 : decode cX8_digest 102 = .ok (.ladd, 1) := by decide +kernel
theorem dX8_digest_103 : decode cX8_digest 103 = .ok (.lstore_n 1, 1) := by decide +kernel
theorem dX8_digest_104 : decode cX8_digest 104 = .ok (.iinc 4 1, 3) := by decide +kernel
theorem dX8_digest_107 : decode cX8_digest 107 = .ok (.goto (-42), 3) := by decide +kernel
theorem dX8_digest_110 : decode cX8_digest 110 = .ok (.ldc2_w 216, 3) := by decide +kernel
theorem dX8_digest_113 : decode cX8_digest 113 = .ok (.lload_n 1, 1) := by decide +kernel
theorem dX8_digest_114 : decode cX8_digest 114 = .ok (.lmul, 1) := by decide +kernel
theorem dX8_digest_115 : decode cX8_digest 115 = .ok (.aload_n 0, 1) := by decide +kernel
theorem dX8_digest_116 : decode cX8_digest 116 = .ok (.getfield 7, 3) := by decide +kernel
theorem dX8_digest_119 : decode cX8_digest 119 = .ok (.iconst 0, 1) := by decide +kernel
theorem dX8_digest_120 : decode cX8_digest 120 = .ok (.iaload, 1) := by decide +kernel
theorem dX8_digest_121 : decode cX8_digest 121 = .ok (.i2l, 1) := by decide +kernel
theorem dX8_digest_122 : decode cX8_digest 122 = .ok (.ladd, 1) := by decide +kernel
theorem dX8_digest_123 : decode cX8_digest 123 = .ok (.aload_n 0, 1) := by decide +kernel
theorem dX8_digest_124 : decode cX8_digest 124 = .ok (.getfield 7, 3) := by decide +kernel
theorem dX8_digest_127 : decode cX8_digest 127 = .ok (.bipush 10, 2) := by decide +kernel
theorem dX8_digest_129 : decode cX8_digest 129 = .ok (.iload_n 3, 1) := by decide +kernel
theorem dX8_digest_130 : decode cX8_digest 130 = .ok (.iadd, 1) := by decide +kernel
theorem dX8_digest_131 : decode cX8_digest 131 = .ok (.iaload, 1) := by decide +kernel
theorem dX8_digest_132 : decode cX8_digest 132 = .ok (.i2l, 1) := by decide +kernel
theorem dX8_digest_133 : decode cX8_digest 133 = .ok (.ladd, 1) := by decide +kernel
theorem dX8_digest_134 : decode cX8_digest 134 = .ok (.lstore_n 1, 1) := by decide +kernel
theorem dX8_digest_135 : decode cX8_digest 135 = .ok (.iinc 3 1, 3) := by decide +kernel
theorem dX8_digest_138 : decode cX8_digest 138 = .ok (.goto (-103), 3) := by decide +kernel
theorem dX8_digest_141 : decode cX8_digest 141 = .ok (.ldc2_w 216, 3) := by decide +kernel
theorem dX8_digest_144 : decode cX8_digest 144 = .ok (.lload_n 1, 1) := by decide +kernel
theorem dX8_digest_145 : decode cX8_digest 145 = .ok (.lmul, 1) := by decide +kernel
theorem dX8_digest_146 : decode cX8_digest 146 = .ok (.aload_n 0, 1) := by decide +kernel
theorem dX8_digest_147 : decode cX8_digest 147 = .ok (.getfield 7, 3) := by decide +kernel
theorem dX8_digest_150 : decode cX8_digest 150 = .ok (.iconst 3, 1) := by decide +kernel
theorem dX8_digest_151 : decode cX8_digest 151 = .ok (.iaload, 1) := by decide +kernel
theorem dX8_digest_152 : decode cX8_digest 152 = .ok (.ifCond .le 14, 3) := by decide +kernel
theorem dX8_digest_155 : decode cX8_digest 155 = .ok (.aload_n 0, 1) := by decide +kernel
theorem dX8_digest_156 : decode cX8_digest 156 = .ok (.getfield 7, 3) := by decide +kernel
theorem dX8_digest_159 : decode cX8_digest 159 = .ok (.iconst 4, 1) := by decide +kernel
theorem dX8_digest_160 : decode cX8_digest 160 = .ok (.iaload, 1) := by decide +kernel
theorem dX8_digest_161 : decode cX8_digest 161 = .ok (.iconst 1, 1) := by decide +kernel
theorem dX8_digest_162 : decode cX8_digest 162 = .ok (.iadd, 1) := by decide +kernel
theorem dX8_digest_163 : decode cX8_digest 163 = .ok (.goto 4, 3) := by decide +kernel
theorem dX8_digest_166 : decode cX8_digest 166 = .ok (.iconst 0, 1) := by decide +kernel
theorem dX8_digest_167 : decode cX8_digest 167 = .ok (.i2l, 1) := by decide +kernel
theorem dX8_digest_168 : decode cX8_digest 168 = .ok (.ladd, 1) := by decide +kernel
theorem dX8_digest_169 : decode cX8_digest 169 = .ok (.lstore_n 1, 1) := by decide +kernel
theorem dX8_digest_170 : decode cX8_digest 170 = .ok (.ldc2_w 216, 3) := by decide +kernel
theorem dX8_digest_173 : decode cX8_digest 173 = .ok (.lload_n 1, 1) := by decide +kernel
theorem dX8_digest_174 : decode cX8_digest 174 = .ok (.lmul, 1) := by decide +kernel
theorem dX8_digest_175 : decode cX8_digest 175 = .ok (.aload_n 0, 1) := by decide +kernel
theorem dX8_digest_176 : decode cX8_digest 176 = .ok (.getfield 67, 3) := by decide +kernel
theorem dX8_digest_179 : decode cX8_digest 179 = .ok (.iconst 1, 1) := by decide +kernel
theorem dX8_digest_180 : decode cX8_digest 180 = .ok (.if_icmp .ne 7, 3) := by decide +kernel
theorem dX8_digest_183 : decode cX8_digest 183 = .ok (.iconst 1, 1) := by decide +kernel
theorem dX8_digest_184 : decode cX8_digest 184 = .ok (.goto 4, 3) := by decide +kernel
theorem dX8_digest_187 : decode cX8_digest 187 = .ok (.iconst 0, 1) := by decide +kernel
theorem dX8_digest_188 : decode cX8_digest 188 = .ok (.i2l, 1) := by decide +kernel
theorem dX8_digest_189 : decode cX8_digest 189 = .ok (.ladd, 1) := by decide +kernel
theorem dX8_digest_190 : decode cX8_digest 190 = .ok (.lstore_n 1, 1) := by decide +kernel
theorem dX8_digest_191 : decode cX8_digest 191 = .ok (.ldc2_w 216, 3) := by decide +kernel
theorem dX8_digest_194 : decode cX8_digest 194 = .ok (.lload_n 1, 1) := by decide +kernel
theorem dX8_digest_195 : decode cX8_digest 195 = .ok (.lmul, 1) := by decide +kernel
theorem dX8_digest_196 : decode cX8_digest 196 = .ok (.aload_n 0, 1) := by decide +kernel
theorem dX8_digest_197 : decode cX8_digest 197 = .ok (.getfield 67, 3) := by decide +kernel
theorem dX8_digest_200 : decode cX8_digest 200 = .ok (.iconst 2, 1) := by decide +kernel
theorem dX8_digest_201 : decode cX8_digest 201 = .ok (.if_icmp .ne 7, 3) := by decide +kernel
theorem dX8_digest_204 : decode cX8_digest 204 = .ok (.iconst 1, 1) := by decide +kernel
theorem dX8_digest_205 : decode cX8_digest 205 = .ok (.goto 4, 3) := by decide +kernel
theorem dX8_digest_208 : decode cX8_digest 208 = .ok (.iconst 0, 1) := by decide +kernel
theorem dX8_digest_209 : decode cX8_digest 209 = .ok (.i2l, 1) := by decide +kernel
theorem dX8_digest_210 : decode cX8_digest 210 = .ok (.ladd, 1) := by decide +kernel
theorem dX8_digest_211 : decode cX8_digest 211 = .ok (.lstore_n 1, 1) := by decide +kernel
theorem dX8_digest_212 : decode cX8_digest 212 = .ok (.ldc2_w 216, 3) := by decide +kernel
theorem dX8_digest_215 : decode cX8_digest 215 = .ok (.lload_n 1, 1) := by decide +kernel
theorem dX8_digest_216 : decode cX8_digest 216 = .ok (.lmul, 1) := by decide +kernel
theorem dX8_digest_217 : decode cX8_digest 217 = .ok (.aload_n 0, 1) := by decide +kernel
theorem dX8_digest_218 : decode cX8_digest 218 = .ok (.invokevirtual 202, 3) := by decide +kernel
theorem dX8_digest_221 : decode cX8_digest 221 = .ok (.i2l, 1) := by decide +kernel
theorem dX8_digest_222 : decode cX8_digest 222 = .ok (.ladd, 1) := by decide +kernel
theorem dX8_digest_223 : decode cX8_digest 223 = .ok (.lstore_n 1, 1) := by decide +kernel
theorem dX8_digest_224 : decode cX8_digest 224 = .ok (.ldc2_w 216, 3) := by decide +kernel
theorem dX8_digest_227 : decode cX8_digest 227 = .ok (.lload_n 1, 1) := by decide +kernel
theorem dX8_digest_228 : decode cX8_digest 228 = .ok (.lmul, 1) := by decide +kernel
theorem dX8_digest_229 : decode cX8_digest 229 = .ok (.aload_n 0, 1) := by decide +kernel
theorem dX8_digest_230 : decode cX8_digest 230 = .ok (.getfield 7, 3) := by decide +kernel
theorem dX8_digest_233 : decode cX8_digest 233 = .ok (.iconst 3, 1) := by decide +kernel
theorem dX8_digest_234 : decode cX8_digest 234 = .ok (.iaload, 1) := by decide +kernel
theorem dX8_digest_235 : decode cX8_digest 235 = .ok (.ifCond .le 12, 3) := by decide +kernel
theorem dX8_digest_238 : decode cX8_digest 238 = .ok (.aload_n 0, 1) := by decide +kernel
theorem dX8_digest_239 : decode cX8_digest 239 = .ok (.invokevirtual 205, 3) := by decide +kernel
theorem dX8_digest_242 : decode cX8_digest 242 = .ok (.iconst 1, 1) := by decide +kernel
theorem dX8_digest_243 : decode cX8_digest 243 = .ok (.iadd, 1) := by decide +kernel
theorem dX8_digest_244 : decode cX8_digest 244 = .ok (.goto 4, 3) := by decide +kernel
theorem dX8_digest_247 : decode cX8_digest 247 = .ok (.iconst 0, 1) := by decide +kernel
theorem dX8_digest_248 : decode cX8_digest 248 = .ok (.i2l, 1) := by decide +kernel
theorem dX8_digest_249 : decode cX8_digest 249 = .ok (.ladd, 1) := by decide +kernel
theorem dX8_digest_250 : decode cX8_digest 250 = .ok (.lstore_n 1, 1) := by decide +kernel
theorem dX8_digest_251 : decode cX8_digest 251 = .ok (.ldc2_w 216, 3) := by decide +kernel
theorem dX8_digest_254 : decode cX8_digest 254 = .ok (.lload_n 1, 1) := by decide +kernel
theorem dX8_digest_255 : decode cX8_digest 255 = .ok (.lmul, 1) := by decide +kernel
theorem dX8_digest_256 : decode cX8_digest 256 = .ok (.aload_n 0, 1) := by decide +kernel
theorem dX8_digest_257 : decode cX8_digest 257 = .ok (.getfield 7, 3) := by decide +kernel
theorem dX8_digest_260 : decode cX8_digest 260 = .ok (.bipush 6, 2) := by decide +kernel
theorem dX8_digest_262 : decode cX8_digest 262 = .ok (.iaload, 1) := by decide +kernel
theorem dX8_digest_263 : decode cX8_digest 263 = .ok (.i2l, 1) := by decide +kernel
theorem dX8_digest_264 : decode cX8_digest 264 = .ok (.ladd, 1) := by decide +kernel
theorem dX8_digest_265 : decode cX8_digest 265 = .ok (.lstore_n 1, 1) := by decide +kernel
theorem dX8_digest_266 : decode cX8_digest 266 = .ok (.ldc2_w 216, 3) := by decide +kernel
theorem dX8_digest_269 : decode cX8_digest 269 = .ok (.lload_n 1, 1) := by decide +kernel
theorem dX8_digest_270 : decode cX8_digest 270 = .ok (.lmul, 1) := by decide +kernel
theorem dX8_digest_271 : decode cX8_digest 271 = .ok (.aload_n 0, 1) := by decide +kernel
theorem dX8_digest_272 : decode cX8_digest 272 = .ok (.getfield 7, 3) := by decide +kernel
theorem dX8_digest_275 : decode cX8_digest 275 = .ok (.bipush 7, 2) := by decide +kernel
theorem dX8_digest_277 : decode cX8_digest 277 = .ok (.iaload, 1) := by decide +kernel
theorem dX8_digest_278 : decode cX8_digest 278 = .ok (.i2l, 1) := by decide +kernel
theorem dX8_digest_279 : decode cX8_digest 279 = .ok (.ladd, 1) := by decide +kernel
theorem dX8_digest_280 : decode cX8_digest 280 = .ok (.lstore_n 1, 1) := by decide +kernel
theorem dX8_digest_281 : decode cX8_digest 281 = .ok (.ldc2_w 216, 3) := by decide +kernel
theorem dX8_digest_284 : decode cX8_digest 284 = .ok (.lload_n 1, 1) := by decide +kernel
theorem dX8_digest_285 : decode cX8_digest 285 = .ok (.lmul, 1) := by decide +kernel
theorem dX8_digest_286 : decode cX8_digest 286 = .ok (.aload_n 0, 1) := by decide +kernel
theorem dX8_digest_287 : decode cX8_digest 287 = .ok (.getfield 7, 3) := by decide +kernel
theorem dX8_digest_290 : decode cX8_digest 290 = .ok (.bipush 8, 2) := by decide +kernel
theorem dX8_digest_292 : decode cX8_digest 292 = .ok (.iaload, 1) := by decide +kernel
theorem dX8_digest_293 : decode cX8_digest 293 = .ok (.i2l, 1) := by decide +kernel
theorem dX8_digest_294 : decode cX8_digest 294 = .ok (.ladd, 1) := by decide +kernel
theorem dX8_digest_295 : decode cX8_digest 295 = .ok (.lstore_n 1, 1) := by decide +kernel
theorem dX8_digest_296 : decode cX8_digest 296 = .ok (.ldc2_w 216, 3) := by decide +kernel
theorem dX8_digest_299 : decode cX8_digest 299 = .ok (.lload_n 1, 1) := by decide +kernel
theorem dX8_digest_300 : decode cX8_digest 300 = .ok (.lmul, 1) := by decide +kernel
theorem dX8_digest_301 : decode cX8_digest 301 = .ok (.aload_n 0, 1) := by decide +kernel
theorem dX8_digest_302 : decode cX8_digest 302 = .ok (.getfield 7, 3) := by decide +kernel
theorem dX8_digest_305 : decode cX8_digest 305 = .ok (.bipush 9, 2) := by decide +kernel
theorem dX8_digest_307 : decode cX8_digest 307 = .ok (.iaload, 1) := by decide +kernel
theorem dX8_digest_308 : decode cX8_digest 308 = .ok (.i2l, 1) := by decide +kernel
theorem dX8_digest_309 : decode cX8_digest 309 = .ok (.ladd, 1) := by decide +kernel
theorem dX8_digest_310 : decode cX8_digest 310 = .ok (.lstore_n 1, 1) := by decide +kernel
theorem dX8_digest_311 : decode cX8_digest 311 = .ok (.ldc2_w 216, 3) := by decide +kernel
theorem dX8_digest_314 : decode cX8_digest 314 = .ok (.lload_n 1, 1) := by decide +kernel
theorem dX8_digest_315 : decode cX8_digest 315 = .ok (.lmul, 1) := by decide +kernel
theorem dX8_digest_316 : decode cX8_digest 316 = .ok (.aload_n 0, 1) := by decide +kernel
theorem dX8_digest_317 : decode cX8_digest 317 = .ok (.getfield 7, 3) := by decide +kernel
theorem dX8_digest_320 : decode cX8_digest 320 = .ok (.iconst 0, 1) := by decide +kernel
theorem dX8_digest_321 : decode cX8_digest 321 = .ok (.iaload, 1) := by decide +kernel
theorem dX8_digest_322 : decode cX8_digest 322 = .ok (.i2l, 1) := by decide +kernel
theorem dX8_digest_323 : decode cX8_digest 323 = .ok (.ladd, 1) := by decide +kernel
theorem dX8_digest_324 : decode cX8_digest 324 = .ok (.lstore_n 1, 1) := by decide +kernel
theorem dX8_digest_325 : decode cX8_digest 325 = .ok (.ldc2_w 216, 3) := by decide +kernel
theorem dX8_digest_328 : decode cX8_digest 328 = .ok (.lload_n 1, 1) := by decide +kernel
theorem dX8_digest_329 : decode cX8_digest 329 = .ok (.lmul, 1) := by decide +kernel
theorem dX8_digest_330 : decode cX8_digest 330 = .ok (.aload_n 0, 1) := by decide +kernel
theorem dX8_digest_331 : decode cX8_digest 331 = .ok (.getfield 25, 3) := by decide +kernel
theorem dX8_digest_334 : decode cX8_digest 334 = .ok (.i2l, 1) := by decide +kernel
theorem dX8_digest_335 : decode cX8_digest 335 = .ok (.ladd, 1) := by decide +kernel
theorem dX8_digest_336 : decode cX8_digest 336 = .ok (.lstore_n 1, 1) := by decide +kernel
theorem dX8_digest_337 : decode cX8_digest 337 = .ok (.ldc2_w 216, 3) := by decide +kernel
theorem dX8_digest_340 : decode cX8_digest 340 = .ok (.lload_n 1, 1) := by decide +kernel
theorem dX8_digest_341 : decode cX8_digest 341 = .ok (.lmul, 1) := by decide +kernel
theorem dX8_digest_342 : decode cX8_digest 342 = .ok (.aload_n 0, 1) := by decide +kernel
theorem dX8_digest_343 : decode cX8_digest 343 = .ok (.getfield 7, 3) := by decide +kernel
theorem dX8_digest_346 : decode cX8_digest 346 = .ok (.iconst 3, 1) := by decide +kernel
theorem dX8_digest_347 : decode cX8_digest 347 = .ok (.iaload, 1) := by decide +kernel
theorem dX8_digest_348 : decode cX8_digest 348 = .ok (.ifCond .ne 7, 3) := by decide +kernel
theorem dX8_digest_351 : decode cX8_digest 351 = .ok (.lconst 0, 1) := by decide +kernel
theorem dX8_digest_352 : decode cX8_digest 352 = .ok (.goto 16, 3) := by decide +kernel
theorem dX8_digest_355 : decode cX8_digest 355 = .ok (.aload_n 0, 1) := by decide +kernel
theorem dX8_digest_356 : decode cX8_digest 356 = .ok (.invokevirtual 202, 3) := by decide +kernel
theorem dX8_digest_359 : decode cX8_digest 359 = .ok (.aload_n 0, 1) := by decide +kernel
theorem dX8_digest_360 : decode cX8_digest 360 = .ok (.getfield 7, 3) := by decide +kernel
theorem dX8_digest_363 : decode cX8_digest 363 = .ok (.iconst 3, 1) := by decide +kernel
theorem dX8_digest_364 : decode cX8_digest 364 = .ok (.iaload, 1) := by decide +kernel
theorem dX8_digest_365 : decode cX8_digest 365 = .ok (.invokestatic 222, 3) := by decide +kernel
theorem dX8_digest_368 : decode cX8_digest 368 = .ok (.ladd, 1) := by decide +kernel
theorem dX8_digest_369 : decode cX8_digest 369 = .ok (.lstore_n 1, 1) := by decide +kernel
theorem dX8_digest_370 : decode cX8_digest 370 = .ok (.iconst 0, 1) := by decide +kernel
theorem dX8_digest_371 : decode cX8_digest 371 = .ok (.istore_n 3, 1) := by decide +kernel
theorem dX8_digest_372 : decode cX8_digest 372 = .ok (.iload_n 3, 1) := by decide +kernel
theorem dX8_digest_373 : decode cX8_digest 373 = .ok (.iconst 2, 1) := by decide +kernel
theorem dX8_digest_374 : decode cX8_digest 374 = .ok (.if_icmp .ge 31, 3) := by decide +kernel
theorem dX8_digest_377 : decode cX8_digest 377 = .ok (.ldc2_w 216, 3) := by decide +kernel
theorem dX8_digest_380 : decode cX8_digest 380 = .ok (.lload_n 1, 1) := by decide +kernel
theorem dX8_digest_381 : decode cX8_digest 381 = .ok (.lmul, 1) := by decide +kernel
theorem dX8_digest_382 : decode cX8_digest 382 = .ok (.aload_n 0, 1) := by decide +kernel
theorem dX8_digest_383 : decode cX8_digest 383 = .ok (.getfield 13, 3) := by decide +kernel
theorem dX8_digest_386 : decode cX8_digest 386 = .ok (.iload_n 3, 1) := by decide +kernel
theorem dX8_digest_387 : decode cX8_digest 387 = .ok (.baload, 1) := by decide +kernel
theorem dX8_digest_388 : decode cX8_digest 388 = .ok (.ifCond .eq 7, 3) := by decide +kernel
theorem dX8_digest_391 : decode cX8_digest 391 = .ok (.iconst 1, 1) := by decide +kernel
theorem dX8_digest_392 : decode cX8_digest 392 = .ok (.goto 4, 3) := by decide +kernel
theorem dX8_digest_395 : decode cX8_digest 395 = .ok (.iconst 0, 1) := by decide +kernel
theorem dX8_digest_396 : decode cX8_digest 396 = .ok (.i2l, 1) := by decide +kernel
theorem dX8_digest_397 : decode cX8_digest 397 = .ok (.ladd, 1) := by decide +kernel
theorem dX8_digest_398 : decode cX8_digest 398 = .ok (.lstore_n 1, 1) := by decide +kernel
theorem dX8_digest_399 : decode cX8_digest 399 = .ok (.iinc 3 1, 3) := by decide +kernel
theorem dX8_digest_402 : decode cX8_digest 402 = .ok (.goto (-30), 3) := by decide +kernel
theorem dX8_digest_405 : decode cX8_digest 405 = .ok (.ldc2_w 216, 3) := by decide +kernel
theorem dX8_digest_408 : decode cX8_digest 408 = .ok (.lload_n 1, 1) := by decide +kernel
theorem dX8_digest_409 : decode cX8_digest 409 = .ok (.lmul, 1) := by decide +kernel
theorem dX8_digest_410 : decode cX8_digest 410 = .ok (.aload_n 0, 1) := by decide +kernel
theorem dX8_digest_411 : decode cX8_digest 411 = .ok (.getfield 159, 3) := by decide +kernel
theorem dX8_digest_414 : decode cX8_digest 414 = .ok (.i2l, 1) := by decide +kernel
theorem dX8_digest_415 : decode cX8_digest 415 = .ok (.ladd, 1) := by decide +kernel
theorem dX8_digest_416 : decode cX8_digest 416 = .ok (.lstore_n 1, 1) := by decide +kernel
theorem dX8_digest_417 : decode cX8_digest 417 = .ok (.iconst 0, 1) := by decide +kernel
theorem dX8_digest_418 : decode cX8_digest 418 = .ok (.istore_n 3, 1) := by decide +kernel
theorem dX8_digest_419 : decode cX8_digest 419 = .ok (.iload_n 3, 1) := by decide +kernel
theorem dX8_digest_420 : decode cX8_digest 420 = .ok (.aload_n 0, 1) := by decide +kernel
theorem dX8_digest_421 : decode cX8_digest 421 = .ok (.getfield 159, 3) := by decide +kernel
theorem dX8_digest_424 : decode cX8_digest 424 = .ok (.if_icmp .ge 23, 3) := by decide +kernel
theorem dX8_digest_427 : decode cX8_digest 427 = .ok (.ldc2_w 216, 3) := by decide +kernel
theorem dX8_digest_430 : decode cX8_digest 430 = .ok (.lload_n 1, 1) := by decide +kernel
theorem dX8_digest_431 : decode cX8_digest 431 = .ok (.lmul, 1) := by decide +kernel
theorem dX8_digest_432 : decode cX8_digest 432 = .ok (.aload_n 0, 1) := by decide +kernel
theorem dX8_digest_433 : decode cX8_digest 433 = .ok (.getfield 17, 3) := by decide +kernel
theorem dX8_digest_436 : decode cX8_digest 436 = .ok (.iload_n 3, 1) := by decide +kernel
theorem dX8_digest_437 : decode cX8_digest 437 = .ok (.caload, 1) := by decide +kernel
theorem dX8_digest_438 : decode cX8_digest 438 = .ok (.i2l, 1) := by decide +kernel
theorem dX8_digest_439 : decode cX8_digest 439 = .ok (.ladd, 1) := by decide +kernel
theorem dX8_digest_440 : decode cX8_digest 440 = .ok (.lstore_n 1, 1) := by decide +kernel
theorem dX8_digest_441 : decode cX8_digest 441 = .ok (.iinc 3 1, 3) := by decide +kernel
theorem dX8_digest_444 : decode cX8_digest 444 = .ok (.goto (-25), 3) := by decide +kernel
theorem dX8_digest_447 : decode cX8_digest 447 = .ok (.aload_n 0, 1) := by decide +kernel
theorem dX8_digest_448 : decode cX8_digest 448 = .ok (.iconst 0, 1) := by decide +kernel
theorem dX8_digest_449 : decode cX8_digest 449 = .ok (.putfield 21, 3) := by decide +kernel
theorem dX8_digest_452 : decode cX8_digest 452 = .ok (.lload_n 1, 1) := by decide +kernel
theorem dX8_digest_453 : decode cX8_digest 453 = .ok (.lreturn, 1) := by decide +kernel
