theorem dX0_init_0 : decode cX0_init 0 = .ok (.aload_n 0, 1) := by decide +kernel
theorem dX0_init_1 : decode cX0_init 1 = .ok (.invokespecial 1, 3) := by decide +kernel
theorem dX0_init_4 : decode cX0_init 4 = .ok (.return_, 1) := by decide +kernel
theorem dX0_copyFrom_0 : decode cX0_copyFrom 0 = .ok (.aload_n 0, 1) := by decide +kernel
theorem dX0_copyFrom_1 : decode cX0_copyFrom 1 = .ok (.aload_n 1, 1) := by decide +kernel
theorem dX0_copyFrom_2 : decode cX0_copyFrom 2 = .ok (.getfield 7, 3) := by decide +kernel
theorem dX0_copyFrom_5 : decode cX0_copyFrom 5 = .ok (.putfield 7, 3) := by decide +kernel
theorem dX0_copyFrom_8 : decode cX0_copyFrom 8 = .ok (.aload_n 0, 1) := by decide +kernel
theorem dX0_copyFrom_9 : decode cX0_copyFrom 9 = .ok (.aload_n 1, 1) := by decide +kernel
theorem dX0_copyFrom_10 : decode cX0_copyFrom 10 = .ok (.getfield 13, 3) := by decide +kernel
theorem dX0_copyFrom_13 : decode cX0_copyFrom 13 = .ok (.putfield 13, 3) := by decide +kernel
theorem dX0_copyFrom_16 : decode cX0_copyFrom 16 = .ok (.aload_n 0, 1) := by decide +kernel
theorem dX0_copyFrom_17 : decode cX0_copyFrom 17 = .ok (.aload_n 1, 1) := by decide +kernel
theorem dX0_copyFrom_18 : decode cX0_copyFrom 18 = .ok (.getfield 16, 3) := by decide +kernel
theorem dX0_copyFrom_21 : decode cX0_copyFrom 21 = .ok (.putfield 16, 3) := by decide +kernel
theorem dX0_copyFrom_24 : decode cX0_copyFrom 24 = .ok (.aload_n 0, 1) := by decide +kernel
theorem dX0_copyFrom_25 : decode cX0_copyFrom 25 = .ok (.aload_n 1, 1) := by decide +kernel
theorem dX0_copyFrom_26 : decode cX0_copyFrom 26 = .ok (.getfield 19, 3) := by decide +kernel
theorem dX0_copyFrom_29 : decode cX0_copyFrom 29 = .ok (.putfield 19, 3) := by decide +kernel
theorem dX0_copyFrom_32 : decode cX0_copyFrom 32 = .ok (.aload_n 0, 1) := by decide +kernel
theorem dX0_copyFrom_33 : decode cX0_copyFrom 33 = .ok (.aload_n 1, 1) := by decide +kernel
theorem dX0_copyFrom_34 : decode cX0_copyFrom 34 = .ok (.getfield 22, 3) := by decide +kernel
theorem dX0_copyFrom_37 : decode cX0_copyFrom 37 = .ok (.putfield 22, 3) := by decide +kernel
theorem dX0_copyFrom_40 : decode cX0_copyFrom 40 = .ok (.aload_n 0, 1) := by decide +kernel
theorem dX0_copyFrom_41 : decode cX0_copyFrom 41 = .ok (.aload_n 1, 1) := by decide +kernel
theorem dX0_copyFrom_42 : decode cX0_copyFrom 42 = .ok (.getfield 25, 3) := by decide +kernel
theorem dX0_copyFrom_45 : decode cX0_copyFrom 45 = .ok (.putfield 25, 3) := by decide +kernel
theorem dX0_copyFrom_48 : decode cX0_copyFrom 48 = .ok (.return_, 1) := by decide +kernel
theorem dX0_balance_0 : decode cX0_balance 0 = .ok (.aload_n 0, 1) := by decide +kernel
theorem dX0_balance_1 : decode cX0_balance 1 = .ok (.getfield 7, 3) := by decide +kernel
theorem dX0_balance_4 : decode cX0_balance 4 = .ok (.aload_n 0, 1) := by decide +kernel
theorem dX0_balance_5 : decode cX0_balance 5 = .ok (.getfield 19, 3) := by decide +kernel
theorem dX0_balance_8 : decode cX0_balance 8 = .ok (.iadd, 1) := by decide +kernel
theorem dX0_balance_9 : decode cX0_balance 9 = .ok (.aload_n 0, 1) := by decide +kernel
theorem dX0_balance_10 : decode cX0_balance 10 = .ok (.getfield 16, 3) := by decide +kernel
theorem dX0_balance_13 : decode cX0_balance 13 = .ok (.isub, 1) := by decide +kernel
theorem dX0_balance_14 : decode cX0_balance 14 = .ok (.aload_n 0, 1) := by decide +kernel
theorem dX0_balance_15 : decode cX0_balance 15 = .ok (.getfield 13, 3) := by decide +kernel
theorem dX0_balance_18 : decode cX0_balance 18 = .ok (.isub, 1) := by decide +kernel
theorem dX0_balance_19 : decode cX0_balance 19 = .ok (.aload_n 0, 1) := by decide +kernel
theorem dX0_balance_20 : decode cX0_balance 20 = .ok (.getfield 22, 3) := by decide +kernel
theorem dX0_balance_23 : decode cX0_balance 23 = .ok (.isub, 1) := by decide +kernel
theorem dX0_balance_24 : decode cX0_balance 24 = .ok (.ireturn, 1) := by decide +kernel
theorem dX2_init_0 : decode cX2_init 0 = .ok (.aload_n 0, 1) := by decide +kernel
theorem dX2_init_1 : decode cX2_init 1 = .ok (.invokespecial 3, 3) := by decide +kernel
theorem dX2_init_4 : decode cX2_init 4 = .ok (.aload_n 0, 1) := by decide +kernel
theorem dX2_init_5 : decode cX2_init 5 = .ok (.bipush 7, 2) := by decide +kernel
theorem dX2_init_7 : decode cX2_init 7 = .ok (.anewarray 11, 3) := by decide +kernel
theorem dX2_init_10 : decode cX2_init 10 = .ok (.putfield 13, 3) := by decide +kernel
theorem dX2_init_13 : decode cX2_init 13 = .ok (.iconst 0, 1) := by decide +kernel
theorem dX2_init_14 : decode cX2_init 14 = .ok (.istore_n 1, 1) := by decide +kernel
theorem dX2_init_15 : decode cX2_init 15 = .ok (.iload_n 1, 1) := by decide +kernel
theorem dX2_init_16 : decode cX2_init 16 = .ok (.bipush 7, 2) := by decide +kernel
theorem dX2_init_18 : decode cX2_init 18 = .ok (.if_icmp .ge 22, 3) := by decide +kernel
theorem dX2_init_21 : decode cX2_init 21 = .ok (.aload_n 0, 1) := by decide +kernel
theorem dX2_init_22 : decode cX2_init 22 = .ok (.getfield 13, 3) := by decide +kernel
theorem dX2_init_25 : decode cX2_init 25 = .ok (.iload_n 1, 1) := by decide +kernel
theorem dX2_init_26 : decode cX2_init 26 = .ok (.new 11, 3) := by decide +kernel
theorem dX2_init_29 : decode cX2_init 29 = .ok (.dup, 1) := by decide +kernel
theorem dX2_init_30 : decode cX2_init 30 = .ok (.invokespecial 17, 3) := by decide +kernel
theorem dX2_init_33 : decode cX2_init 33 = .ok (.aastore, 1) := by decide +kernel
theorem dX2_init_34 : decode cX2_init 34 = .ok (.iinc 1 1, 3) := by decide +kernel
theorem dX2_init_37 : decode cX2_init 37 = .ok (.goto (-22), 3) := by decide +kernel
theorem dX2_init_40 : decode cX2_init 40 = .ok (.return_, 1) := by decide +kernel
theorem dX2_count_0 : decode cX2_count 0 = .ok (.aload_n 0, 1) := by decide +kernel
theorem dX2_count_1 : decode cX2_count 1 = .ok (.getfield 18, 3) := by decide +kernel
theorem dX2_count_4 : decode cX2_count 4 = .ok (.ireturn, 1) := by decide +kernel
theorem dX2_row_0 : decode cX2_row 0 = .ok (.aload_n 0, 1) := by decide +kernel
theorem dX2_row_1 : decode cX2_row 1 = .ok (.getfield 13, 3) := by decide +kernel
theorem dX2_row_4 : decode cX2_row 4 = .ok (.iload_n 1, 1) := by decide +kernel
theorem dX2_row_5 : decode cX2_row 5 = .ok (.bipush 7, 2) := by decide +kernel
theorem dX2_row_7 : decode cX2_row 7 = .ok (.invokestatic 22, 3) := by decide +kernel
theorem dX2_row_10 : decode cX2_row 10 = .ok (.aaload, 1) := by decide +kernel
theorem dX2_row_11 : decode cX2_row 11 = .ok (.areturn, 1) := by decide +kernel
theorem dX2_prepare_0 : decode cX2_prepare 0 = .ok (.aload_n 0, 1) := by decide +kernel
theorem dX2_prepare_1 : decode cX2_prepare 1 = .ok (.invokevirtual 28, 3) := by decide +kernel
theorem dX2_prepare_4 : decode cX2_prepare 4 = .ok (.aload_n 1, 1) := by decide +kernel
theorem dX2_prepare_5 : decode cX2_prepare 5 = .ok (.invokevirtual 32, 3) := by decide +kernel
theorem dX2_prepare_8 : decode cX2_prepare 8 = .ok (.return_, 1) := by decide +kernel
theorem dX2_prepared_0 : decode cX2_prepared 0 = .ok (.aload_n 0, 1) := by decide +kernel
theorem dX2_prepared_1 : decode cX2_prepared 1 = .ok (.aload_n 0, 1) := by decide +kernel
theorem dX2_prepared_2 : decode cX2_prepared 2 = .ok (.getfield 36, 3) := by decide +kernel
theorem dX2_prepared_5 : decode cX2_prepared 5 = .ok (.aload_n 0, 1) := by decide +kernel
theorem dX2_prepared_6 : decode cX2_prepared 6 = .ok (.getfield 18, 3) := by decide +kernel
theorem dX2_prepared_9 : decode cX2_prepared 9 = .ok (.iadd, 1) := by decide +kernel
theorem dX2_prepared_10 : decode cX2_prepared 10 = .ok (.invokevirtual 39, 3) := by decide +kernel
theorem dX2_prepared_13 : decode cX2_prepared 13 = .ok (.areturn, 1) := by decide +kernel
theorem dX2_save_0 : decode cX2_save 0 = .ok (.aload_n 0, 1) := by decide +kernel
theorem dX2_save_1 : decode cX2_save 1 = .ok (.getfield 18, 3) := by decide +kernel
theorem dX2_save_4 : decode cX2_save 4 = .ok (.bipush 6, 2) := by decide +kernel
theorem dX2_save_6 : decode cX2_save 6 = .ok (.if_icmp .ge 16, 3) := by decide +kernel
theorem dX2_save_9 : decode cX2_save 9 = .ok (.aload_n 0, 1) := by decide +kernel
theorem dX2_save_10 : decode cX2_save 10 = .ok (.dup, 1) := by decide +kernel
theorem dX2_save_11 : decode cX2_save 11 = .ok (.getfield 18, 3) := by decide +kernel
theorem dX2_save_14 : decode cX2_save 14 = .ok (.iconst 1, 1) := by decide +kernel
theorem dX2_save_15 : decode cX2_save 15 = .ok (.iadd, 1) := by decide +kernel
theorem dX2_save_16 : decode cX2_save 16 = .ok (.putfield 18, 3) := by decide +kernel
theorem dX2_save_19 : decode cX2_save 19 = .ok (.goto 18, 3) := by decide +kernel
theorem dX2_save_22 : decode cX2_save 22 = .ok (.aload_n 0, 1) := by decide +kernel
theorem dX2_save_23 : decode cX2_save 23 = .ok (.aload_n 0, 1) := by decide +kernel
theorem dX2_save_24 : decode cX2_save 24 = .ok (.getfield 36, 3) := by decide +kernel
theorem dX2_save_27 : decode cX2_save 27 = .ok (.iconst 1, 1) := by decide +kernel
theorem dX2_save_28 : decode cX2_save 28 = .ok (.iadd, 1) := by decide +kernel
theorem dX2_save_29 : decode cX2_save 29 = .ok (.bipush 7, 2) := by decide +kernel
theorem dX2_save_31 : decode cX2_save 31 = .ok (.invokestatic 22, 3) := by decide +kernel
theorem dX2_save_34 : decode cX2_save 34 = .ok (.putfield 36, 3) := by decide +kernel
theorem dX2_save_37 : decode cX2_save 37 = .ok (.return_, 1) := by decide +kernel
theorem dX2_latest_0 : decode cX2_latest 0 = .ok (.aload_n 0, 1) := by decide +kernel
theorem dX2_latest_1 : decode cX2_latest 1 = .ok (.aload_n 0, 1) := by decide +kernel
theorem dX2_latest_2 : decode cX2_latest 2 = .ok (.getfield 36, 3) := by decide +kernel
theorem dX2_latest_5 : decode cX2_latest 5 = .ok (.aload_n 0, 1) := by decide +kernel
theorem dX2_latest_6 : decode cX2_latest 6 = .ok (.getfield 18, 3) := by decide +kernel
theorem dX2_latest_9 : decode cX2_latest 9 = .ok (.iadd, 1) := by decide +kernel
theorem dX2_latest_10 : decode cX2_latest 10 = .ok (.iconst 1, 1) := by decide +kernel
theorem dX2_latest_11 : decode cX2_latest 11 = .ok (.isub, 1) := by decide +kernel
theorem dX2_latest_12 : decode cX2_latest 12 = .ok (.invokevirtual 39, 3) := by decide +kernel
theorem dX2_latest_15 : decode cX2_latest 15 = .ok (.areturn, 1) := by decide +kernel
theorem dX2_drop_0 : decode cX2_drop 0 = .ok (.aload_n 0, 1) := by decide +kernel
theorem dX2_drop_1 : decode cX2_drop 1 = .ok (.getfield 18, 3) := by decide +kernel
theorem dX2_drop_4 : decode cX2_drop 4 = .ok (.ifCond .le 13, 3) := by decide +kernel
theorem dX2_drop_7 : decode cX2_drop 7 = .ok (.aload_n 0, 1) := by decide +kernel
theorem dX2_drop_8 : decode cX2_drop 8 = .ok (.dup, 1) := by decide +kernel
theorem dX2_drop_9 : decode cX2_drop 9 = .ok (.getfield 18, 3) := by decide +kernel
theorem dX2_drop_12 : decode cX2_drop 12 = .ok (.iconst 1, 1) := by decide +kernel
theorem dX2_drop_13 : decode cX2_drop 13 = .ok (.isub, 1) := by decide +kernel
theorem dX2_drop_14 : decode cX2_drop 14 = .ok (.putfield 18, 3) := by decide +kernel
theorem dX2_drop_17 : decode cX2_drop 17 = .ok (.return_, 1) := by decide +kernel
theorem dX3_init_0 : decode cX3_init 0 = .ok (.aload_n 0, 1) := by decide +kernel
theorem dX3_init_1 : decode cX3_init 1 = .ok (.invokespecial 3, 3) := by decide +kernel
theorem dX3_init_4 : decode cX3_init 4 = .ok (.aload_n 0, 1) := by decide +kernel
theorem dX3_init_5 : decode cX3_init 5 = .ok (.bipush 8, 2) := by decide +kernel
theorem dX3_init_7 : decode cX3_init 7 = .ok (.anewarray 9, 3) := by decide +kernel
theorem dX3_init_10 : decode cX3_init 10 = .ok (.putfield 11, 3) := by decide +kernel
theorem dX3_init_13 : decode cX3_init 13 = .ok (.aload_n 0, 1) := by decide +kernel
theorem dX3_init_14 : decode cX3_init 14 = .ok (.new 9, 3) := by decide +kernel
theorem dX3_init_17 : decode cX3_init 17 = .ok (.dup, 1) := by decide +kernel
theorem dX3_init_18 : decode cX3_init 18 = .ok (.iconst 0, 1) := by decide +kernel
theorem dX3_init_19 : decode cX3_init 19 = .ok (.invokespecial 17, 3) := by decide +kernel
theorem dX3_init_22 : decode cX3_init 22 = .ok (.putfield 20, 3) := by decide +kernel
theorem dX3_init_25 : decode cX3_init 25 = .ok (.aload_n 0, 1) := by decide +kernel
theorem dX3_init_26 : decode cX3_init 26 = .ok (.iconst 5, 1) := by decide +kernel
theorem dX3_init_27 : decode cX3_init 27 = .ok (.putfield 24, 3) := by decide +kernel
theorem dX3_init_30 : decode cX3_init 30 = .ok (.aload_n 0, 1) := by decide +kernel
theorem dX3_init_31 : decode cX3_init 31 = .ok (.iconst (-1), 1) := by decide +kernel
theorem dX3_init_32 : decode cX3_init 32 = .ok (.putfield 28, 3) := by decide +kernel
theorem dX3_init_35 : decode cX3_init 35 = .ok (.iconst 0, 1) := by decide +kernel
theorem dX3_init_36 : decode cX3_init 36 = .ok (.istore_n 1, 1) := by decide +kernel
theorem dX3_init_37 : decode cX3_init 37 = .ok (.iload_n 1, 1) := by decide +kernel
theorem dX3_init_38 : decode cX3_init 38 = .ok (.bipush 8, 2) := by decide +kernel
theorem dX3_init_40 : decode cX3_init 40 = .ok (.if_icmp .ge 25, 3) := by decide +kernel
theorem dX3_init_43 : decode cX3_init 43 = .ok (.aload_n 0, 1) := by decide +kernel
theorem dX3_init_44 : decode cX3_init 44 = .ok (.getfield 11, 3) := by decide +kernel
theorem dX3_init_47 : decode cX3_init 47 = .ok (.iload_n 1, 1) := by decide +kernel
theorem dX3_init_48 : decode cX3_init 48 = .ok (.new 9, 3) := by decide +kernel
theorem dX3_init_51 : decode cX3_init 51 = .ok (.dup, 1) := by decide +kernel
theorem dX3_init_52 : decode cX3_init 52 = .ok (.sipush 200, 3) := by decide +kernel
theorem dX3_init_55 : decode cX3_init 55 = .ok (.invokespecial 17, 3) := by decide +kernel
theorem dX3_init_58 : decode cX3_init 58 = .ok (.aastore, 1) := by decide +kernel
theorem dX3_init_59 : decode cX3_init 59 = .ok (.iinc 1 1, 3) := by decide +kernel
theorem dX3_init_62 : decode cX3_init 62 = .ok (.goto (-25), 3) := by decide +kernel
theorem dX3_init_65 : decode cX3_init 65 = .ok (.return_, 1) := by decide +kernel
theorem dX3_copyFrom_0 : decode cX3_copyFrom 0 = .ok (.aload_n 0, 1) := by decide +kernel
theorem dX3_copyFrom_1 : decode cX3_copyFrom 1 = .ok (.aload_n 1, 1) := by decide +kernel
theorem dX3_copyFrom_2 : decode cX3_copyFrom 2 = .ok (.getfield 31, 3) := by decide +kernel
theorem dX3_copyFrom_5 : decode cX3_copyFrom 5 = .ok (.putfield 31, 3) := by decide +kernel
theorem dX3_copyFrom_8 : decode cX3_copyFrom 8 = .ok (.aload_n 0, 1) := by decide +kernel
theorem dX3_copyFrom_9 : decode cX3_copyFrom 9 = .ok (.aload_n 1, 1) := by decide +kernel
theorem dX3_copyFrom_10 : decode cX3_copyFrom 10 = .ok (.getfield 24, 3) := by decide +kernel
theorem dX3_copyFrom_13 : decode cX3_copyFrom 13 = .ok (.putfield 24, 3) := by decide +kernel
theorem dX3_copyFrom_16 : decode cX3_copyFrom 16 = .ok (.aload_n 0, 1) := by decide +kernel
theorem dX3_copyFrom_17 : decode cX3_copyFrom 17 = .ok (.aload_n 1, 1) := by decide +kernel
theorem dX3_copyFrom_18 : decode cX3_copyFrom 18 = .ok (.getfield 28, 3) := by decide +kernel
theorem dX3_copyFrom_21 : decode cX3_copyFrom 21 = .ok (.putfield 28, 3) := by decide +kernel
theorem dX3_copyFrom_24 : decode cX3_copyFrom 24 = .ok (.iconst 0, 1) := by decide +kernel
theorem dX3_copyFrom_25 : decode cX3_copyFrom 25 = .ok (.istore_n 2, 1) := by decide +kernel
theorem dX3_copyFrom_26 : decode cX3_copyFrom 26 = .ok (.iload_n 2, 1) := by decide +kernel
theorem dX3_copyFrom_27 : decode cX3_copyFrom 27 = .ok (.aload_n 0, 1) := by decide +kernel
theorem dX3_copyFrom_28 : decode cX3_copyFrom 28 = .ok (.getfield 31, 3) := by decide +kernel
theorem dX3_copyFrom_31 : decode cX3_copyFrom 31 = .ok (.if_icmp .ge 30, 3) := by decide +kernel
theorem dX3_copyFrom_34 : decode cX3_copyFrom 34 = .ok (.iload_n 2, 1) := by decide +kernel
theorem dX3_copyFrom_35 : decode cX3_copyFrom 35 = .ok (.bipush 8, 2) := by decide +kernel
theorem dX3_copyFrom_37 : decode cX3_copyFrom 37 = .ok (.if_icmp .ge 24, 3) := by decide +kernel
theorem dX3_copyFrom_40 : decode cX3_copyFrom 40 = .ok (.aload_n 0, 1) := by decide +kernel
theorem dX3_copyFrom_41 : decode cX3_copyFrom 41 = .ok (.getfield 11, 3) := by decide +kernel
theorem dX3_copyFrom_44 : decode cX3_copyFrom 44 = .ok (.iload_n 2, 1) := by decide +kernel
theorem dX3_copyFrom_45 : decode cX3_copyFrom 45 = .ok (.aaload, 1) := by decide +kernel
theorem dX3_copyFrom_46 : decode cX3_copyFrom 46 = .ok (.aload_n 1, 1) := by decide +kernel
theorem dX3_copyFrom_47 : decode cX3_copyFrom 47 = .ok (.getfield 11, 3) := by decide +kernel
theorem dX3_copyFrom_50 : decode cX3_copyFrom 50 = .ok (.iload_n 2, 1) := by decide +kernel
theorem dX3_copyFrom_51 : decode cX3_copyFrom 51 = .ok (.aaload, 1) := by decide +kernel
theorem dX3_copyFrom_52 : decode cX3_copyFrom 52 = .ok (.invokevirtual 34, 3) := by decide +kernel
theorem dX3_copyFrom_55 : decode cX3_copyFrom 55 = .ok (.iinc 2 1, 3) := by decide +kernel
theorem dX3_copyFrom_58 : decode cX3_copyFrom 58 = .ok (.goto (-32), 3) := by decide +kernel
theorem dX3_copyFrom_61 : decode cX3_copyFrom 61 = .ok (.return_, 1) := by decide +kernel
theorem dX3_hoard_0 : decode cX3_hoard 0 = .ok (.iload_n 1, 1) := by decide +kernel
theorem dX3_hoard_1 : decode cX3_hoard 1 = .ok (.ifCond .lt 26, 3) := by decide +kernel
theorem dX3_hoard_4 : decode cX3_hoard 4 = .ok (.iload_n 1, 1) := by decide +kernel
theorem dX3_hoard_5 : decode cX3_hoard 5 = .ok (.aload_n 0, 1) := by decide +kernel
theorem dX3_hoard_6 : decode cX3_hoard 6 = .ok (.getfield 31, 3) := by decide +kernel
theorem dX3_hoard_9 : decode cX3_hoard 9 = .ok (.if_icmp .ge 18, 3) := by decide +kernel
theorem dX3_hoard_12 : decode cX3_hoard 12 = .ok (.iload_n 1, 1) := by decide +kernel
theorem dX3_hoard_13 : decode cX3_hoard 13 = .ok (.bipush 8, 2) := by decide +kernel
theorem dX3_hoard_15 : decode cX3_hoard 15 = .ok (.if_icmp .ge 12, 3) := by decide +kernel
theorem dX3_hoard_18 : decode cX3_hoard 18 = .ok (.aload_n 0, 1) := by decide +kernel
theorem dX3_hoard_19 : decode cX3_hoard 19 = .ok (.getfield 11, 3) := by decide +kernel
theorem dX3_hoard_22 : decode cX3_hoard 22 = .ok (.iload_n 1, 1) := by decide +kernel
theorem dX3_hoard_23 : decode cX3_hoard 23 = .ok (.aaload, 1) := by decide +kernel
theorem dX3_hoard_24 : decode cX3_hoard 24 = .ok (.goto 7, 3) := by decide +kernel
theorem dX3_hoard_27 : decode cX3_hoard 27 = .ok (.aload_n 0, 1) := by decide +kernel
theorem dX3_hoard_28 : decode cX3_hoard 28 = .ok (.getfield 20, 3) := by decide +kernel
theorem dX3_hoard_31 : decode cX3_hoard 31 = .ok (.areturn, 1) := by decide +kernel
theorem dX3_countAt_0 : decode cX3_countAt 0 = .ok (.iload_n 1, 1) := by decide +kernel
theorem dX3_countAt_1 : decode cX3_countAt 1 = .ok (.ifCond .lt 22, 3) := by decide +kernel
theorem dX3_countAt_4 : decode cX3_countAt 4 = .ok (.iload_n 1, 1) := by decide +kernel
theorem dX3_countAt_5 : decode cX3_countAt 5 = .ok (.aload_n 0, 1) := by decide +kernel
theorem dX3_countAt_6 : decode cX3_countAt 6 = .ok (.getfield 31, 3) := by decide +kernel
theorem dX3_countAt_9 : decode cX3_countAt 9 = .ok (.if_icmp .ge 14, 3) := by decide +kernel
theorem dX3_countAt_12 : decode cX3_countAt 12 = .ok (.aload_n 0, 1) := by decide +kernel
theorem dX3_countAt_13 : decode cX3_countAt 13 = .ok (.iload_n 1, 1) := by decide +kernel
theorem dX3_countAt_14 : decode cX3_countAt 14 = .ok (.invokevirtual 38, 3) := by decide +kernel
theorem dX3_countAt_17 : decode cX3_countAt 17 = .ok (.invokevirtual 42, 3) := by decide +kernel
theorem dX3_countAt_20 : decode cX3_countAt 20 = .ok (.goto 4, 3) := by decide +kernel
theorem dX3_countAt_23 : decode cX3_countAt 23 = .ok (.iconst (-1), 1) := by decide +kernel
theorem dX3_countAt_24 : decode cX3_countAt 24 = .ok (.ireturn, 1) := by decide +kernel
theorem dX3_add_0 : decode cX3_add 0 = .ok (.aload_n 0, 1) := by decide +kernel
theorem dX3_add_1 : decode cX3_add 1 = .ok (.getfield 31, 3) := by decide +kernel
theorem dX3_add_4 : decode cX3_add 4 = .ok (.aload_n 0, 1) := by decide +kernel
theorem dX3_add_5 : decode cX3_add 5 = .ok (.getfield 24, 3) := by decide +kernel
theorem dX3_add_8 : decode cX3_add 8 = .ok (.if_icmp .lt 7, 3) := by decide +kernel
theorem dX3_add_11 : decode cX3_add 11 = .ok (.iconst 1, 1) := by decide +kernel
theorem dX3_add_12 : decode cX3_add 12 = .ok (.goto 4, 3) := by decide +kernel
theorem dX3_add_15 : decode cX3_add 15 = .ok (.iconst 0, 1) := by decide +kernel
theorem dX3_add_16 : decode cX3_add 16 = .ok (.istore 4, 2) := by decide +kernel
theorem dX3_add_18 : decode cX3_add 18 = .ok (.aload_n 0, 1) := by decide +kernel
theorem dX3_add_19 : decode cX3_add 19 = .ok (.aload_n 0, 1) := by decide +kernel
theorem dX3_add_20 : decode cX3_add 20 = .ok (.getfield 31, 3) := by decide +kernel
theorem dX3_add_23 : decode cX3_add 23 = .ok (.iconst 1, 1) := by decide +kernel
theorem dX3_add_24 : decode cX3_add 24 = .ok (.iadd, 1) := by decide +kernel
theorem dX3_add_25 : decode cX3_add 25 = .ok (.iload 4, 2) := by decide +kernel
theorem dX3_add_27 : decode cX3_add 27 = .ok (.isub, 1) := by decide +kernel
theorem dX3_add_28 : decode cX3_add 28 = .ok (.putfield 31, 3) := by decide +kernel
theorem dX3_add_31 : decode cX3_add 31 = .ok (.iconst 0, 1) := by decide +kernel
theorem dX3_add_32 : decode cX3_add 32 = .ok (.aload_n 0, 1) := by decide +kernel
theorem dX3_add_33 : decode cX3_add 33 = .ok (.getfield 31, 3) := by decide +kernel
theorem dX3_add_36 : decode cX3_add 36 = .ok (.bipush 8, 2) := by decide +kernel
theorem dX3_add_38 : decode cX3_add 38 = .ok (.invokestatic 45, 3) := by decide +kernel
theorem dX3_add_41 : decode cX3_add 41 = .ok (.iconst 1, 1) := by decide +kernel
theorem dX3_add_42 : decode cX3_add 42 = .ok (.isub, 1) := by decide +kernel
theorem dX3_add_43 : decode cX3_add 43 = .ok (.invokestatic 51, 3) := by decide +kernel
theorem dX3_add_46 : decode cX3_add 46 = .ok (.istore 5, 2) := by decide +kernel
theorem dX3_add_48 : decode cX3_add 48 = .ok (.aload_n 0, 1) := by decide +kernel
theorem dX3_add_49 : decode cX3_add 49 = .ok (.getfield 11, 3) := by decide +kernel
theorem dX3_add_52 : decode cX3_add 52 = .ok (.iload 5, 2) := by decide +kernel
theorem dX3_add_54 : decode cX3_add 54 = .ok (.aaload, 1) := by decide +kernel
theorem dX3_add_55 : decode cX3_add 55 = .ok (.astore 6, 2) := by decide +kernel
theorem dX3_add_57 : decode cX3_add 57 = .ok (.iload 5, 2) := by decide +kernel
theorem dX3_add_59 : decode cX3_add 59 = .ok (.istore 7, 2) := by decide +kernel
theorem dX3_add_61 : decode cX3_add 61 = .ok (.iload 7, 2) := by decide +kernel
theorem dX3_add_63 : decode cX3_add 63 = .ok (.ifCond .le 25, 3) := by decide +kernel
theorem dX3_add_66 : decode cX3_add 66 = .ok (.aload_n 0, 1) := by decide +kernel
theorem dX3_add_67 : decode cX3_add 67 = .ok (.getfield 11, 3) := by decide +kernel
theorem dX3_add_70 : decode cX3_add 70 = .ok (.iload 7, 2) := by decide +kernel
theorem dX3_add_72 : decode cX3_add 72 = .ok (.aload_n 0, 1) := by decide +kernel
theorem dX3_add_73 : decode cX3_add 73 = .ok (.getfield 11, 3) := by decide +kernel
theorem dX3_add_76 : decode cX3_add 76 = .ok (.iload 7, 2) := by decide +kernel
theorem dX3_add_78 : decode cX3_add 78 = .ok (.iconst 1, 1) := by decide +kernel
theorem dX3_add_79 : decode cX3_add 79 = .ok (.isub, 1) := by decide +kernel
theorem dX3_add_80 : decode cX3_add 80 = .ok (.aaload, 1) := by decide +kernel
theorem dX3_add_81 : decode cX3_add 81 = .ok (.aastore, 1) := by decide +kernel
theorem dX3_add_82 : decode cX3_add 82 = .ok (.iinc 7 (-1), 3) := by decide +kernel
theorem dX3_add_85 : decode cX3_add 85 = .ok (.goto (-24), 3) := by decide +kernel
theorem dX3_add_88 : decode cX3_add 88 = .ok (.aload_n 0, 1) := by decide +kernel
theorem dX3_add_89 : decode cX3_add 89 = .ok (.getfield 11, 3) := by decide +kernel
theorem dX3_add_92 : decode cX3_add 92 = .ok (.iconst 0, 1) := by decide +kernel
theorem dX3_add_93 : decode cX3_add 93 = .ok (.aload 6, 2) := by decide +kernel
theorem dX3_add_95 : decode cX3_add 95 = .ok (.aastore, 1) := by decide +kernel
theorem dX3_add_96 : decode cX3_add 96 = .ok (.aload 6, 2) := by decide +kernel
theorem dX3_add_98 : decode cX3_add 98 = .ok (.invokevirtual 54, 3) := by decide +kernel
theorem dX3_add_101 : decode cX3_add 101 = .ok (.aload 6, 2) := by decide +kernel
theorem dX3_add_103 : decode cX3_add 103 = .ok (.iconst 0, 1) := by decide +kernel
theorem dX3_add_104 : decode cX3_add 104 = .ok (.aload_n 1, 1) := by decide +kernel
theorem dX3_add_105 : decode cX3_add 105 = .ok (.iload_n 2, 1) := by decide +kernel
theorem dX3_add_106 : decode cX3_add 106 = .ok (.iload_n 3, 1) := by decide +kernel
theorem dX3_add_107 : decode cX3_add 107 = .ok (.invokevirtual 57, 3) := by decide +kernel
theorem dX3_add_110 : decode cX3_add 110 = .ok (.aload_n 0, 1) := by decide +kernel
theorem dX3_add_111 : decode cX3_add 111 = .ok (.iconst 0, 1) := by decide +kernel
theorem dX3_add_112 : decode cX3_add 112 = .ok (.putfield 28, 3) := by decide +kernel
theorem dX3_add_115 : decode cX3_add 115 = .ok (.iload 4, 2) := by decide +kernel
theorem dX3_add_117 : decode cX3_add 117 = .ok (.ireturn, 1) := by decide +kernel
theorem dX3_grow_0 : decode cX3_grow 0 = .ok (.aload_n 0, 1) := by decide +kernel
theorem dX3_grow_1 : decode cX3_grow 1 = .ok (.iconst 0, 1) := by decide +kernel
theorem dX3_grow_2 : decode cX3_grow 2 = .ok (.invokevirtual 38, 3) := by decide +kernel
theorem dX3_grow_5 : decode cX3_grow 5 = .ok (.astore 5, 2) := by decide +kernel
theorem dX3_grow_7 : decode cX3_grow 7 = .ok (.aload 5, 2) := by decide +kernel
theorem dX3_grow_9 : decode cX3_grow 9 = .ok (.iload 4, 2) := by decide +kernel
theorem dX3_grow_11 : decode cX3_grow 11 = .ok (.ifCond .eq 7, 3) := by decide +kernel
theorem dX3_grow_14 : decode cX3_grow 14 = .ok (.iconst 0, 1) := by decide +kernel
theorem dX3_grow_15 : decode cX3_grow 15 = .ok (.goto 8, 3) := by decide +kernel
theorem dX3_grow_18 : decode cX3_grow 18 = .ok (.aload 5, 2) := by decide +kernel
theorem dX3_grow_20 : decode cX3_grow 20 = .ok (.invokevirtual 42, 3) := by decide +kernel
theorem dX3_grow_23 : decode cX3_grow 23 = .ok (.aload_n 1, 1) := by decide +kernel
theorem dX3_grow_24 : decode cX3_grow 24 = .ok (.iload_n 2, 1) := by decide +kernel
theorem dX3_grow_25 : decode cX3_grow 25 = .ok (.iload_n 3, 1) := by decide +kernel
theorem dX3_grow_26 : decode cX3_grow 26 = .ok (.invokevirtual 57, 3) := by decide +kernel
theorem dX3_grow_29 : decode cX3_grow 29 = .ok (.aload_n 0, 1) := by decide +kernel
theorem dX3_grow_30 : decode cX3_grow 30 = .ok (.iconst 0, 1) := by decide +kernel
theorem dX3_grow_31 : decode cX3_grow 31 = .ok (.putfield 28, 3) := by decide +kernel
theorem dX3_grow_34 : decode cX3_grow 34 = .ok (.return_, 1) := by decide +kernel
theorem dX3_nextIfTurned_0 : decode cX3_nextIfTurned 0 = .ok (.aload_n 0, 1) := by decide +kernel
theorem dX3_nextIfTurned_1 : decode cX3_nextIfTurned 1 = .ok (.getfield 31, 3) := by decide +kernel
theorem dX3_nextIfTurned_4 : decode cX3_nextIfTurned 4 = .ok (.ifCond .le 19, 3) := by decide +kernel
theorem dX3_nextIfTurned_7 : decode cX3_nextIfTurned 7 = .ok (.aload_n 0, 1) := by decide +kernel
theorem dX3_nextIfTurned_8 : decode cX3_nextIfTurned 8 = .ok (.getfield 28, 3) := by decide +kernel
theorem dX3_nextIfTurned_11 : decode cX3_nextIfTurned 11 = .ok (.iload_n 1, 1) := by decide +kernel
theorem dX3_nextIfTurned_12 : decode cX3_nextIfTurned 12 = .ok (.iadd, 1) := by decide +kernel
theorem dX3_nextIfTurned_13 : decode cX3_nextIfTurned 13 = .ok (.aload_n 0, 1) := by decide +kernel
theorem dX3_nextIfTurned_14 : decode cX3_nextIfTurned 14 = .ok (.getfield 31, 3) := by decide +kernel
theorem dX3_nextIfTurned_17 : decode cX3_nextIfTurned 17 = .ok (.invokestatic 61, 3) := by decide +kernel
theorem dX3_nextIfTurned_20 : decode cX3_nextIfTurned 20 = .ok (.goto 4, 3) := by decide +kernel
theorem dX3_nextIfTurned_23 : decode cX3_nextIfTurned 23 = .ok (.iconst (-1), 1) := by decide +kernel
theorem dX3_nextIfTurned_24 : decode cX3_nextIfTurned 24 = .ok (.ireturn, 1) := by decide +kernel
theorem dX3_changeTo_0 : decode cX3_changeTo 0 = .ok (.iconst 0, 1) := by decide +kernel
theorem dX3_changeTo_1 : decode cX3_changeTo 1 = .ok (.aload_n 0, 1) := by decide +kernel
theorem dX3_changeTo_2 : decode cX3_changeTo 2 = .ok (.getfield 31, 3) := by decide +kernel
theorem dX3_changeTo_5 : decode cX3_changeTo 5 = .ok (.iload_n 1, 1) := by decide +kernel
theorem dX3_changeTo_6 : decode cX3_changeTo 6 = .ok (.isub, 1) := by decide +kernel
theorem dX3_changeTo_7 : decode cX3_changeTo 7 = .ok (.invokestatic 51, 3) := by decide +kernel
theorem dX3_changeTo_10 : decode cX3_changeTo 10 = .ok (.istore_n 2, 1) := by decide +kernel
theorem dX3_changeTo_11 : decode cX3_changeTo 11 = .ok (.aload_n 0, 1) := by decide +kernel
theorem dX3_changeTo_12 : decode cX3_changeTo 12 = .ok (.iload_n 1, 1) := by decide +kernel
theorem dX3_changeTo_13 : decode cX3_changeTo 13 = .ok (.putfield 24, 3) := by decide +kernel
theorem dX3_changeTo_16 : decode cX3_changeTo 16 = .ok (.aload_n 0, 1) := by decide +kernel
theorem dX3_changeTo_17 : decode cX3_changeTo 17 = .ok (.dup, 1) := by decide +kernel
theorem dX3_changeTo_18 : decode cX3_changeTo 18 = .ok (.getfield 31, 3) := by decide +kernel
theorem dX3_changeTo_21 : decode cX3_changeTo 21 = .ok (.iload_n 2, 1) := by decide +kernel
theorem dX3_changeTo_22 : decode cX3_changeTo 22 = .ok (.isub, 1) := by decide +kernel
theorem dX3_changeTo_23 : decode cX3_changeTo 23 = .ok (.putfield 31, 3) := by decide +kernel
theorem dX3_changeTo_26 : decode cX3_changeTo 26 = .ok (.aload_n 0, 1) := by decide +kernel
theorem dX3_changeTo_27 : decode cX3_changeTo 27 = .ok (.getfield 28, 3) := by decide +kernel
theorem dX3_changeTo_30 : decode cX3_changeTo 30 = .ok (.aload_n 0, 1) := by decide +kernel
theorem dX3_changeTo_31 : decode cX3_changeTo 31 = .ok (.getfield 31, 3) := by decide +kernel
theorem dX3_changeTo_34 : decode cX3_changeTo 34 = .ok (.if_icmp .lt 8, 3) := by decide +kernel
theorem dX3_changeTo_37 : decode cX3_changeTo 37 = .ok (.aload_n 0, 1) := by decide +kernel
theorem dX3_changeTo_38 : decode cX3_changeTo 38 = .ok (.iconst 0, 1) := by decide +kernel
theorem dX3_changeTo_39 : decode cX3_changeTo 39 = .ok (.putfield 28, 3) := by decide +kernel
theorem dX3_changeTo_42 : decode cX3_changeTo 42 = .ok (.iload_n 2, 1) := by decide +kernel
theorem dX3_changeTo_43 : decode cX3_changeTo 43 = .ok (.ireturn, 1) := by decide +kernel
theorem dX3_allCodes_0 : decode cX3_allCodes 0 = .ok (.iconst 0, 1) := by decide +kernel
theorem dX3_allCodes_1 : decode cX3_allCodes 1 = .ok (.istore_n 1, 1) := by decide +kernel
theorem dX3_allCodes_2 : decode cX3_allCodes 2 = .ok (.iconst 0, 1) := by decide +kernel
theorem dX3_allCodes_3 : decode cX3_allCodes 3 = .ok (.istore_n 2, 1) := by decide +kernel
theorem dX3_allCodes_4 : decode cX3_allCodes 4 = .ok (.iload_n 2, 1) := by decide +kernel
theorem dX3_allCodes_5 : decode cX3_allCodes 5 = .ok (.aload_n 0, 1) := by decide +kernel
theorem dX3_allCodes_6 : decode cX3_allCodes 6 = .ok (.getfield 31, 3) := by decide +kernel
theorem dX3_allCodes_9 : decode cX3_allCodes 9 = .ok (.if_icmp .ge 20, 3) := by decide +kernel
theorem dX3_allCodes_12 : decode cX3_allCodes 12 = .ok (.iload_n 1, 1) := by decide +kernel
theorem dX3_allCodes_13 : decode cX3_allCodes 13 = .ok (.aload_n 0, 1) := by decide +kernel
theorem dX3_allCodes_14 : decode cX3_allCodes 14 = .ok (.iload_n 2, 1) := by decide +kernel
theorem dX3_allCodes_15 : decode cX3_allCodes 15 = .ok (.invokevirtual 38, 3) := by decide +kernel
theorem dX3_allCodes_18 : decode cX3_allCodes 18 = .ok (.invokevirtual 42, 3) := by decide +kernel
theorem dX3_allCodes_21 : decode cX3_allCodes 21 = .ok (.iadd, 1) := by decide +kernel
theorem dX3_allCodes_22 : decode cX3_allCodes 22 = .ok (.istore_n 1, 1) := by decide +kernel
theorem dX3_allCodes_23 : decode cX3_allCodes 23 = .ok (.iinc 2 1, 3) := by decide +kernel
theorem dX3_allCodes_26 : decode cX3_allCodes 26 = .ok (.goto (-22), 3) := by decide +kernel
theorem dX3_allCodes_29 : decode cX3_allCodes 29 = .ok (.iload_n 1, 1) := by decide +kernel
theorem dX3_allCodes_30 : decode cX3_allCodes 30 = .ok (.ireturn, 1) := by decide +kernel
theorem dX3_longestAt_0 : decode cX3_longestAt 0 = .ok (.iconst (-1), 1) := by decide +kernel
theorem dX3_longestAt_1 : decode cX3_longestAt 1 = .ok (.istore_n 1, 1) := by decide +kernel
theorem dX3_longestAt_2 : decode cX3_longestAt 2 = .ok (.iconst 0, 1) := by decide +kernel
theorem dX3_longestAt_3 : decode cX3_longestAt 3 = .ok (.istore_n 2, 1) := by decide +kernel
theorem dX3_longestAt_4 : decode cX3_longestAt 4 = .ok (.iload_n 2, 1) := by decide +kernel
theorem dX3_longestAt_5 : decode cX3_longestAt 5 = .ok (.aload_n 0, 1) := by decide +kernel
theorem dX3_longestAt_6 : decode cX3_longestAt 6 = .ok (.getfield 31, 3) := by decide +kernel
theorem dX3_longestAt_9 : decode cX3_longestAt 9 = .ok (.if_icmp .ge 35, 3) := by decide +kernel
theorem dX3_longestAt_12 : decode cX3_longestAt 12 = .ok (.iload_n 1, 1) := by decide +kernel
theorem dX3_longestAt_13 : decode cX3_longestAt 13 = .ok (.iconst (-1), 1) := by decide +kernel
theorem dX3_longestAt_14 : decode cX3_longestAt 14 = .ok (.if_icmp .eq 22, 3) := by decide +kernel
theorem dX3_longestAt_17 : decode cX3_longestAt 17 = .ok (.aload_n 0, 1) := by decide +kernel
theorem dX3_longestAt_18 : decode cX3_longestAt 18 = .ok (.iload_n 2, 1) := by decide +kernel
theorem dX3_longestAt_19 : decode cX3_longestAt 19 = .ok (.invokevirtual 38, 3) := by decide +kernel
theorem dX3_longestAt_22 : decode cX3_longestAt 22 = .ok (.invokevirtual 42, 3) := by decide +kernel
theorem dX3_longestAt_25 : decode cX3_longestAt 25 = .ok (.aload_n 0, 1) := by decide +kernel
theorem dX3_longestAt_26 : decode cX3_longestAt 26 = .ok (.iload_n 1, 1) := by decide +kernel
theorem dX3_longestAt_27 : decode cX3_longestAt 27 = .ok (.invokevirtual 38, 3) := by decide +kernel
theorem dX3_longestAt_30 : decode cX3_longestAt 30 = .ok (.invokevirtual 42, 3) := by decide +kernel
theorem dX3_longestAt_33 : decode cX3_longestAt 33 = .ok (.if_icmp .le 5, 3) := by decide +kernel
theorem dX3_longestAt_36 : decode cX3_longestAt 36 = .ok (.iload_n 2, 1) := by decide +kernel
theorem dX3_longestAt_37 : decode cX3_longestAt 37 = .ok (.istore_n 1, 1) := by decide +kernel
theorem dX3_longestAt_38 : decode cX3_longestAt 38 = .ok (.iinc 2 1, 3) := by decide +kernel
theorem dX3_longestAt_41 : decode cX3_longestAt 41 = .ok (.goto (-37), 3) := by decide +kernel
theorem dX3_longestAt_44 : decode cX3_longestAt 44 = .ok (.iload_n 1, 1) := by decide +kernel
theorem dX3_longestAt_45 : decode cX3_longestAt 45 = .ok (.ireturn, 1) := by decide +kernel
theorem dX4_init_0 : decode cX4_init 0 = .ok (.aload_n 0, 1) := by decide +kernel
theorem dX4_init_1 : decode cX4_init 1 = .ok (.invokespecial 3, 3) := by decide +kernel
theorem dX4_init_4 : decode cX4_init 4 = .ok (.aload_n 0, 1) := by decide +kernel
theorem dX4_init_5 : decode cX4_init 5 = .ok (.new 9, 3) := by decide +kernel
theorem dX4_init_8 : decode cX4_init 8 = .ok (.dup, 1) := by decide +kernel
theorem dX4_init_9 : decode cX4_init 9 = .ok (.sipush 200, 3) := by decide +kernel
theorem dX4_init_12 : decode cX4_init 12 = .ok (.invokespecial 11, 3) := by decide +kernel
theorem dX4_init_15 : decode cX4_init 15 = .ok (.putfield 14, 3) := by decide +kernel
theorem dX4_init_18 : decode cX4_init 18 = .ok (.aload_n 0, 1) := by decide +kernel
theorem dX4_init_19 : decode cX4_init 19 = .ok (.iconst (-1), 1) := by decide +kernel
theorem dX4_init_20 : decode cX4_init 20 = .ok (.putfield 20, 3) := by decide +kernel
theorem dX4_init_23 : decode cX4_init 23 = .ok (.return_, 1) := by decide +kernel
theorem dX4_copyFrom_0 : decode cX4_copyFrom 0 = .ok (.aload_n 0, 1) := by decide +kernel
theorem dX4_copyFrom_1 : decode cX4_copyFrom 1 = .ok (.getfield 14, 3) := by decide +kernel
theorem dX4_copyFrom_4 : decode cX4_copyFrom 4 = .ok (.aload_n 1, 1) := by decide +kernel
theorem dX4_copyFrom_5 : decode cX4_copyFrom 5 = .ok (.getfield 14, 3) := by decide +kernel
theorem dX4_copyFrom_8 : decode cX4_copyFrom 8 = .ok (.invokevirtual 24, 3) := by decide +kernel
theorem dX4_copyFrom_11 : decode cX4_copyFrom 11 = .ok (.aload_n 0, 1) := by decide +kernel
theorem dX4_copyFrom_12 : decode cX4_copyFrom 12 = .ok (.aload_n 1, 1) := by decide +kernel
theorem dX4_copyFrom_13 : decode cX4_copyFrom 13 = .ok (.getfield 28, 3) := by decide +kernel
theorem dX4_copyFrom_16 : decode cX4_copyFrom 16 = .ok (.putfield 28, 3) := by decide +kernel
theorem dX4_copyFrom_19 : decode cX4_copyFrom 19 = .ok (.aload_n 0, 1) := by decide +kernel
theorem dX4_copyFrom_20 : decode cX4_copyFrom 20 = .ok (.aload_n 1, 1) := by decide +kernel
theorem dX4_copyFrom_21 : decode cX4_copyFrom 21 = .ok (.getfield 20, 3) := by decide +kernel
theorem dX4_copyFrom_24 : decode cX4_copyFrom 24 = .ok (.putfield 20, 3) := by decide +kernel
theorem dX4_copyFrom_27 : decode cX4_copyFrom 27 = .ok (.return_, 1) := by decide +kernel
theorem dX4_writeCode_0 : decode cX4_writeCode 0 = .ok (.aload_n 0, 1) := by decide +kernel
theorem dX4_writeCode_1 : decode cX4_writeCode 1 = .ok (.getfield 14, 3) := by decide +kernel
theorem dX4_writeCode_4 : decode cX4_writeCode 4 = .ok (.aload_n 0, 1) := by decide +kernel
theorem dX4_writeCode_5 : decode cX4_writeCode 5 = .ok (.getfield 28, 3) := by decide +kernel
theorem dX4_writeCode_8 : decode cX4_writeCode 8 = .ok (.iload_n 1, 1) := by decide +kernel
theorem dX4_writeCode_9 : decode cX4_writeCode 9 = .ok (.invokevirtual 31, 3) := by decide +kernel
theorem dX4_writeCode_12 : decode cX4_writeCode 12 = .ok (.aload_n 0, 1) := by decide +kernel
theorem dX4_writeCode_13 : decode cX4_writeCode 13 = .ok (.iconst 1, 1) := by decide +kernel
theorem dX4_writeCode_14 : decode cX4_writeCode 14 = .ok (.invokevirtual 35, 3) := by decide +kernel
theorem dX4_writeCode_17 : decode cX4_writeCode 17 = .ok (.return_, 1) := by decide +kernel
theorem dX4_writeText_0 : decode cX4_writeText 0 = .ok (.aload_n 0, 1) := by decide +kernel
theorem dX4_writeText_1 : decode cX4_writeText 1 = .ok (.getfield 14, 3) := by decide +kernel
theorem dX4_writeText_4 : decode cX4_writeText 4 = .ok (.aload_n 0, 1) := by decide +kernel
theorem dX4_writeText_5 : decode cX4_writeText 5 = .ok (.getfield 28, 3) := by decide +kernel
theorem dX4_writeText_8 : decode cX4_writeText 8 = .ok (.aload_n 1, 1) := by decide +kernel
theorem dX4_writeText_9 : decode cX4_writeText 9 = .ok (.iconst 0, 1) := by decide +kernel
theorem dX4_writeText_10 : decode cX4_writeText 10 = .ok (.aload_n 1, 1) := by decide +kernel
theorem dX4_writeText_11 : decode cX4_writeText 11 = .ok (.invokevirtual 38, 3) := by decide +kernel
theorem dX4_writeText_14 : decode cX4_writeText 14 = .ok (.invokevirtual 42, 3) := by decide +kernel
theorem dX4_writeText_17 : decode cX4_writeText 17 = .ok (.aload_n 0, 1) := by decide +kernel
theorem dX4_writeText_18 : decode cX4_writeText 18 = .ok (.aload_n 1, 1) := by decide +kernel
theorem dX4_writeText_19 : decode cX4_writeText 19 = .ok (.invokevirtual 38, 3) := by decide +kernel
theorem dX4_writeText_22 : decode cX4_writeText 22 = .ok (.invokevirtual 35, 3) := by decide +kernel
theorem dX4_writeText_25 : decode cX4_writeText 25 = .ok (.return_, 1) := by decide +kernel
theorem dX4_makeWay_0 : decode cX4_makeWay 0 = .ok (.aload_n 0, 1) := by decide +kernel
theorem dX4_makeWay_1 : decode cX4_makeWay 1 = .ok (.getfield 20, 3) := by decide +kernel
theorem dX4_makeWay_4 : decode cX4_makeWay 4 = .ok (.aload_n 0, 1) := by decide +kernel
theorem dX4_makeWay_5 : decode cX4_makeWay 5 = .ok (.getfield 28, 3) := by decide +kernel
theorem dX4_makeWay_8 : decode cX4_makeWay 8 = .ok (.if_icmp .le 13, 3) := by decide +kernel
theorem dX4_makeWay_11 : decode cX4_makeWay 11 = .ok (.aload_n 0, 1) := by decide +kernel
theorem dX4_makeWay_12 : decode cX4_makeWay 12 = .ok (.dup, 1) := by decide +kernel
theorem dX4_makeWay_13 : decode cX4_makeWay 13 = .ok (.getfield 20, 3) := by decide +kernel
theorem dX4_makeWay_16 : decode cX4_makeWay 16 = .ok (.iload_n 1, 1) := by decide +kernel
theorem dX4_makeWay_17 : decode cX4_makeWay 17 = .ok (.iadd, 1) := by decide +kernel
theorem dX4_makeWay_18 : decode cX4_makeWay 18 = .ok (.putfield 20, 3) := by decide +kernel
theorem dX4_makeWay_21 : decode cX4_makeWay 21 = .ok (.aload_n 0, 1) := by decide +kernel
theorem dX4_makeWay_22 : decode cX4_makeWay 22 = .ok (.dup, 1) := by decide +kernel
theorem dX4_makeWay_23 : decode cX4_makeWay 23 = .ok (.getfield 28, 3) := by decide +kernel
theorem dX4_makeWay_26 : decode cX4_makeWay 26 = .ok (.iload_n 1, 1) := by decide +kernel
theorem dX4_makeWay_27 : decode cX4_makeWay 27 = .ok (.iadd, 1) := by decide +kernel
theorem dX4_makeWay_28 : decode cX4_makeWay 28 = .ok (.putfield 28, 3) := by decide +kernel
theorem dX4_makeWay_31 : decode cX4_makeWay 31 = .ok (.return_, 1) := by decide +kernel
theorem dX4_takeOut_0 : decode cX4_takeOut 0 = .ok (.aload_n 0, 1) := by decide +kernel
theorem dX4_takeOut_1 : decode cX4_takeOut 1 = .ok (.getfield 14, 3) := by decide +kernel
theorem dX4_takeOut_4 : decode cX4_takeOut 4 = .ok (.iload_n 1, 1) := by decide +kernel
theorem dX4_takeOut_5 : decode cX4_takeOut 5 = .ok (.iload_n 2, 1) := by decide +kernel
theorem dX4_takeOut_6 : decode cX4_takeOut 6 = .ok (.invokevirtual 46, 3) := by decide +kernel
theorem dX4_takeOut_9 : decode cX4_takeOut 9 = .ok (.aload_n 0, 1) := by decide +kernel
theorem dX4_takeOut_10 : decode cX4_takeOut 10 = .ok (.aload_n 0, 1) := by decide +kernel
theorem dX4_takeOut_11 : decode cX4_takeOut 11 = .ok (.getfield 28, 3) := by decide +kernel
theorem dX4_takeOut_14 : decode cX4_takeOut 14 = .ok (.iload_n 1, 1) := by decide +kernel
theorem dX4_takeOut_15 : decode cX4_takeOut 15 = .ok (.iload_n 2, 1) := by decide +kernel
theorem dX4_takeOut_16 : decode cX4_takeOut 16 = .ok (.invokestatic 49, 3) := by decide +kernel
theorem dX4_takeOut_19 : decode cX4_takeOut 19 = .ok (.putfield 28, 3) := by decide +kernel
theorem dX4_takeOut_22 : decode cX4_takeOut 22 = .ok (.aload_n 0, 1) := by decide +kernel
theorem dX4_takeOut_23 : decode cX4_takeOut 23 = .ok (.aload_n 0, 1) := by decide +kernel
theorem dX4_takeOut_24 : decode cX4_takeOut 24 = .ok (.getfield 20, 3) := by decide +kernel
theorem dX4_takeOut_27 : decode cX4_takeOut 27 = .ok (.iload_n 1, 1) := by decide +kernel
theorem dX4_takeOut_28 : decode cX4_takeOut 28 = .ok (.iload_n 2, 1) := by decide +kernel
theorem dX4_takeOut_29 : decode cX4_takeOut 29 = .ok (.invokestatic 49, 3) := by decide +kernel
theorem dX4_takeOut_32 : decode cX4_takeOut 32 = .ok (.putfield 20, 3) := by decide +kernel
theorem dX4_takeOut_35 : decode cX4_takeOut 35 = .ok (.return_, 1) := by decide +kernel
theorem dX4_placeThen_0 : decode cX4_placeThen 0 = .ok (.iload_n 0, 1) := by decide +kernel
theorem dX4_placeThen_1 : decode cX4_placeThen 1 = .ok (.iload_n 2, 1) := by decide +kernel
theorem dX4_placeThen_2 : decode cX4_placeThen 2 = .ok (.if_icmp .lt 9, 3) := by decide +kernel
theorem dX4_placeThen_5 : decode cX4_placeThen 5 = .ok (.iload_n 0, 1) := by decide +kernel
theorem dX4_placeThen_6 : decode cX4_placeThen 6 = .ok (.iload_n 2, 1) := by decide +kernel
theorem dX4_placeThen_7 : decode cX4_placeThen 7 = .ok (.iload_n 1, 1) := by decide +kernel
theorem dX4_placeThen_8 : decode cX4_placeThen 8 = .ok (.isub, 1) := by decide +kernel
theorem dX4_placeThen_9 : decode cX4_placeThen 9 = .ok (.isub, 1) := by decide +kernel
theorem dX4_placeThen_10 : decode cX4_placeThen 10 = .ok (.ireturn, 1) := by decide +kernel
theorem dX4_placeThen_11 : decode cX4_placeThen 11 = .ok (.iload_n 0, 1) := by decide +kernel
theorem dX4_placeThen_12 : decode cX4_placeThen 12 = .ok (.iload_n 1, 1) := by decide +kernel
theorem dX4_placeThen_13 : decode cX4_placeThen 13 = .ok (.if_icmp .le 7, 3) := by decide +kernel
theorem dX4_placeThen_16 : decode cX4_placeThen 16 = .ok (.iload_n 1, 1) := by decide +kernel
theorem dX4_placeThen_17 : decode cX4_placeThen 17 = .ok (.goto 4, 3) := by decide +kernel
theorem dX4_placeThen_20 : decode cX4_placeThen 20 = .ok (.iload_n 0, 1) := by decide +kernel
theorem dX4_placeThen_21 : decode cX4_placeThen 21 = .ok (.ireturn, 1) := by decide +kernel
theorem dX4_fromMark_0 : decode cX4_fromMark 0 = .ok (.aload_n 0, 1) := by decide +kernel
theorem dX4_fromMark_1 : decode cX4_fromMark 1 = .ok (.getfield 20, 3) := by decide +kernel
theorem dX4_fromMark_4 : decode cX4_fromMark 4 = .ok (.iconst (-1), 1) := by decide +kernel
theorem dX4_fromMark_5 : decode cX4_fromMark 5 = .ok (.if_icmp .ne 7, 3) := by decide +kernel
theorem dX4_fromMark_8 : decode cX4_fromMark 8 = .ok (.iconst (-1), 1) := by decide +kernel
theorem dX4_fromMark_9 : decode cX4_fromMark 9 = .ok (.goto 15, 3) := by decide +kernel
theorem dX4_fromMark_12 : decode cX4_fromMark 12 = .ok (.aload_n 0, 1) := by decide +kernel
theorem dX4_fromMark_13 : decode cX4_fromMark 13 = .ok (.getfield 20, 3) := by decide +kernel
theorem dX4_fromMark_16 : decode cX4_fromMark 16 = .ok (.aload_n 0, 1) := by decide +kernel
theorem dX4_fromMark_17 : decode cX4_fromMark 17 = .ok (.getfield 28, 3) := by decide +kernel
theorem dX4_fromMark_20 : decode cX4_fromMark 20 = .ok (.isub, 1) := by decide +kernel
theorem dX4_fromMark_21 : decode cX4_fromMark 21 = .ok (.invokestatic 53, 3) := by decide +kernel
theorem dX4_fromMark_24 : decode cX4_fromMark 24 = .ok (.ireturn, 1) := by decide +kernel
theorem dX4_isWordAt_0 : decode cX4_isWordAt 0 = .ok (.aload_n 0, 1) := by decide +kernel
theorem dX4_isWordAt_1 : decode cX4_isWordAt 1 = .ok (.getfield 14, 3) := by decide +kernel
theorem dX4_isWordAt_4 : decode cX4_isWordAt 4 = .ok (.iload_n 1, 1) := by decide +kernel
theorem dX4_isWordAt_5 : decode cX4_isWordAt 5 = .ok (.invokevirtual 59, 3) := by decide +kernel
theorem dX4_isWordAt_8 : decode cX4_isWordAt 8 = .ok (.istore_n 2, 1) := by decide +kernel
theorem dX4_isWordAt_9 : decode cX4_isWordAt 9 = .ok (.iload_n 2, 1) := by decide +kernel
theorem dX4_isWordAt_10 : decode cX4_isWordAt 10 = .ok (.bipush 48, 2) := by decide +kernel
theorem dX4_isWordAt_12 : decode cX4_isWordAt 12 = .ok (.if_icmp .lt 9, 3) := by decide +kernel
theorem dX4_isWordAt_15 : decode cX4_isWordAt 15 = .ok (.iload_n 2, 1) := by decide +kernel
theorem dX4_isWordAt_16 : decode cX4_isWordAt 16 = .ok (.bipush 57, 2) := by decide +kernel
theorem dX4_isWordAt_18 : decode cX4_isWordAt 18 = .ok (.if_icmp .le 23, 3) := by decide +kernel
theorem dX4_isWordAt_21 : decode cX4_isWordAt 21 = .ok (.iload_n 2, 1) := by decide +kernel
theorem dX4_isWordAt_22 : decode cX4_isWordAt 22 = .ok (.bipush 65, 2) := by decide +kernel
theorem dX4_isWordAt_24 : decode cX4_isWordAt 24 = .ok (.if_icmp .lt 9, 3) := by decide +kernel
theorem dX4_isWordAt_27 : decode cX4_isWordAt 27 = .ok (.iload_n 2, 1) := by decide +kernel
theorem dX4_isWordAt_28 : decode cX4_isWordAt 28 = .ok (.bipush 90, 2) := by decide +kernel
theorem dX4_isWordAt_30 : decode cX4_isWordAt 30 = .ok (.if_icmp .le 11, 3) := by decide +kernel
theorem dX4_isWordAt_33 : decode cX4_isWordAt 33 = .ok (.aload_n 0, 1) := by decide +kernel
theorem dX4_isWordAt_34 : decode cX4_isWordAt 34 = .ok (.iload_n 1, 1) := by decide +kernel
theorem dX4_isWordAt_35 : decode cX4_isWordAt 35 = .ok (.invokevirtual 62, 3) := by decide +kernel
theorem dX4_isWordAt_38 : decode cX4_isWordAt 38 = .ok (.ifCond .eq 7, 3) := by decide +kernel
theorem dX4_isWordAt_41 : decode cX4_isWordAt 41 = .ok (.iconst 1, 1) := by decide +kernel
theorem dX4_isWordAt_42 : decode cX4_isWordAt 42 = .ok (.goto 4, 3) := by decide +kernel
theorem dX4_isWordAt_45 : decode cX4_isWordAt 45 = .ok (.iconst 0, 1) := by decide +kernel
theorem dX4_isWordAt_46 : decode cX4_isWordAt 46 = .ok (.ireturn, 1) := by decide +kernel
theorem dX4_isSmallAt_0 : decode cX4_isSmallAt 0 = .ok (.aload_n 0, 1) := by decide +kernel
theorem dX4_isSmallAt_1 : decode cX4_isSmallAt 1 = .ok (.getfield 14, 3) := by decide +kernel
theorem dX4_isSmallAt_4 : decode cX4_isSmallAt 4 = .ok (.iload_n 1, 1) := by decide +kernel
theorem dX4_isSmallAt_5 : decode cX4_isSmallAt 5 = .ok (.invokevirtual 59, 3) := by decide +kernel
theorem dX4_isSmallAt_8 : decode cX4_isSmallAt 8 = .ok (.istore_n 2, 1) := by decide +kernel
theorem dX4_isSmallAt_9 : decode cX4_isSmallAt 9 = .ok (.iload_n 2, 1) := by decide +kernel
theorem dX4_isSmallAt_10 : decode cX4_isSmallAt 10 = .ok (.bipush 97, 2) := by decide +kernel
theorem dX4_isSmallAt_12 : decode cX4_isSmallAt 12 = .ok (.if_icmp .lt 13, 3) := by decide +kernel
theorem dX4_isSmallAt_15 : decode cX4_isSmallAt 15 = .ok (.iload_n 2, 1) := by decide +kernel
theorem dX4_isSmallAt_16 : decode cX4_isSmallAt 16 = .ok (.bipush 122, 2) := by decide +kernel
theorem dX4_isSmallAt_18 : decode cX4_isSmallAt 18 = .ok (.if_icmp .gt 7, 3) := by decide +kernel
theorem dX4_isSmallAt_21 : decode cX4_isSmallAt 21 = .ok (.iconst 1, 1) := by decide +kernel
theorem dX4_isSmallAt_22 : decode cX4_isSmallAt 22 = .ok (.goto 4, 3) := by decide +kernel
theorem dX4_isSmallAt_25 : decode cX4_isSmallAt 25 = .ok (.iconst 0, 1) := by decide +kernel
theorem dX4_isSmallAt_26 : decode cX4_isSmallAt 26 = .ok (.ireturn, 1) := by decide +kernel
theorem dX4_isEndAt_0 : decode cX4_isEndAt 0 = .ok (.aload_n 0, 1) := by decide +kernel
theorem dX4_isEndAt_1 : decode cX4_isEndAt 1 = .ok (.getfield 14, 3) := by decide +kernel
theorem dX4_isEndAt_4 : decode cX4_isEndAt 4 = .ok (.iload_n 1, 1) := by decide +kernel
theorem dX4_isEndAt_5 : decode cX4_isEndAt 5 = .ok (.invokevirtual 59, 3) := by decide +kernel
theorem dX4_isEndAt_8 : decode cX4_isEndAt 8 = .ok (.bipush 10, 2) := by decide +kernel
theorem dX4_isEndAt_10 : decode cX4_isEndAt 10 = .ok (.if_icmp .ne 7, 3) := by decide +kernel
theorem dX4_isEndAt_13 : decode cX4_isEndAt 13 = .ok (.iconst 1, 1) := by decide +kernel
theorem dX4_isEndAt_14 : decode cX4_isEndAt 14 = .ok (.goto 4, 3) := by decide +kernel
theorem dX4_isEndAt_17 : decode cX4_isEndAt 17 = .ok (.iconst 0, 1) := by decide +kernel
theorem dX4_isEndAt_18 : decode cX4_isEndAt 18 = .ok (.ireturn, 1) := by decide +kernel
theorem dX4_wordStop_0 : decode cX4_wordStop 0 = .ok (.iload_n 1, 1) := by decide +kernel
theorem dX4_wordStop_1 : decode cX4_wordStop 1 = .ok (.istore_n 2, 1) := by decide +kernel
theorem dX4_wordStop_2 : decode cX4_wordStop 2 = .ok (.iload_n 2, 1) := by decide +kernel
theorem dX4_wordStop_3 : decode cX4_wordStop 3 = .ok (.aload_n 0, 1) := by decide +kernel
theorem dX4_wordStop_4 : decode cX4_wordStop 4 = .ok (.getfield 14, 3) := by decide +kernel
theorem dX4_wordStop_7 : decode cX4_wordStop 7 = .ok (.invokevirtual 38, 3) := by decide +kernel
theorem dX4_wordStop_10 : decode cX4_wordStop 10 = .ok (.if_icmp .ge 17, 3) := by decide +kernel
theorem dX4_wordStop_13 : decode cX4_wordStop 13 = .ok (.aload_n 0, 1) := by decide +kernel
theorem dX4_wordStop_14 : decode cX4_wordStop 14 = .ok (.iload_n 2, 1) := by decide +kernel
theorem dX4_wordStop_15 : decode cX4_wordStop 15 = .ok (.invokevirtual 66, 3) := by decide +kernel
theorem dX4_wordStop_18 : decode cX4_wordStop 18 = .ok (.ifCond .ne 9, 3) := by decide +kernel
theorem dX4_wordStop_21 : decode cX4_wordStop 21 = .ok (.iinc 2 1, 3) := by decide +kernel
theorem dX4_wordStop_24 : decode cX4_wordStop 24 = .ok (.goto (-22), 3) := by decide +kernel
theorem dX4_wordStop_27 : decode cX4_wordStop 27 = .ok (.iload_n 2, 1) := by decide +kernel
theorem dX4_wordStop_28 : decode cX4_wordStop 28 = .ok (.aload_n 0, 1) := by decide +kernel
theorem dX4_wordStop_29 : decode cX4_wordStop 29 = .ok (.getfield 14, 3) := by decide +kernel
theorem dX4_wordStop_32 : decode cX4_wordStop 32 = .ok (.invokevirtual 38, 3) := by decide +kernel
theorem dX4_wordStop_35 : decode cX4_wordStop 35 = .ok (.if_icmp .ge 17, 3) := by decide +kernel
theorem dX4_wordStop_38 : decode cX4_wordStop 38 = .ok (.aload_n 0, 1) := by decide +kernel
theorem dX4_wordStop_39 : decode cX4_wordStop 39 = .ok (.iload_n 2, 1) := by decide +kernel
theorem dX4_wordStop_40 : decode cX4_wordStop 40 = .ok (.invokevirtual 66, 3) := by decide +kernel
theorem dX4_wordStop_43 : decode cX4_wordStop 43 = .ok (.ifCond .eq 9, 3) := by decide +kernel
theorem dX4_wordStop_46 : decode cX4_wordStop 46 = .ok (.iinc 2 1, 3) := by decide +kernel
theorem dX4_wordStop_49 : decode cX4_wordStop 49 = .ok (.goto (-22), 3) := by decide +kernel
theorem dX4_wordStop_52 : decode cX4_wordStop 52 = .ok (.iload_n 2, 1) := by decide +kernel
theorem dX4_wordStop_53 : decode cX4_wordStop 53 = .ok (.ireturn, 1) := by decide +kernel
theorem dX4_wordStart_0 : decode cX4_wordStart 0 = .ok (.iload_n 1, 1) := by decide +kernel
theorem dX4_wordStart_1 : decode cX4_wordStart 1 = .ok (.istore_n 2, 1) := by decide +kernel
theorem dX4_wordStart_2 : decode cX4_wordStart 2 = .ok (.iload_n 2, 1) := by decide +kernel
theorem dX4_wordStart_3 : decode cX4_wordStart 3 = .ok (.ifCond .le 19, 3) := by decide +kernel
theorem dX4_wordStart_6 : decode cX4_wordStart 6 = .ok (.aload_n 0, 1) := by decide +kernel
theorem dX4_wordStart_7 : decode cX4_wordStart 7 = .ok (.iload_n 2, 1) := by decide +kernel
theorem dX4_wordStart_8 : decode cX4_wordStart 8 = .ok (.iconst 1, 1) := by decide +kernel
theorem dX4_wordStart_9 : decode cX4_wordStart 9 = .ok (.isub, 1) := by decide +kernel
theorem dX4_wordStart_10 : decode cX4_wordStart 10 = .ok (.invokevirtual 66, 3) := by decide +kernel
theorem dX4_wordStart_13 : decode cX4_wordStart 13 = .ok (.ifCond .ne 9, 3) := by decide +kernel
theorem dX4_wordStart_16 : decode cX4_wordStart 16 = .ok (.iinc 2 (-1), 3) := by decide +kernel
theorem dX4_wordStart_19 : decode cX4_wordStart 19 = .ok (.goto (-17), 3) := by decide +kernel
theorem dX4_wordStart_22 : decode cX4_wordStart 22 = .ok (.iload_n 2, 1) := by decide +kernel
theorem dX4_wordStart_23 : decode cX4_wordStart 23 = .ok (.ifCond .le 19, 3) := by decide +kernel
theorem dX4_wordStart_26 : decode cX4_wordStart 26 = .ok (.aload_n 0, 1) := by decide +kernel
theorem dX4_wordStart_27 : decode cX4_wordStart 27 = .ok (.iload_n 2, 1) := by decide +kernel
theorem dX4_wordStart_28 : decode cX4_wordStart 28 = .ok (.iconst 1, 1) := by decide +kernel
theorem dX4_wordStart_29 : decode cX4_wordStart 29 = .ok (.isub, 1) := by decide +kernel
theorem dX4_wordStart_30 : decode cX4_wordStart 30 = .ok (.invokevirtual 66, 3) := by decide +kernel
theorem dX4_wordStart_33 : decode cX4_wordStart 33 = .ok (.ifCond .eq 9, 3) := by decide +kernel
theorem dX4_wordStart_36 : decode cX4_wordStart 36 = .ok (.iinc 2 (-1), 3) := by decide +kernel
theorem dX4_wordStart_39 : decode cX4_wordStart 39 = .ok (.goto (-17), 3) := by decide +kernel
theorem dX4_wordStart_42 : decode cX4_wordStart 42 = .ok (.iload_n 2, 1) := by decide +kernel
theorem dX4_wordStart_43 : decode cX4_wordStart 43 = .ok (.ireturn, 1) := by decide +kernel
theorem dX4_lineStart_0 : decode cX4_lineStart 0 = .ok (.iload_n 1, 1) := by decide +kernel
theorem dX4_lineStart_1 : decode cX4_lineStart 1 = .ok (.istore_n 2, 1) := by decide +kernel
theorem dX4_lineStart_2 : decode cX4_lineStart 2 = .ok (.iload_n 2, 1) := by decide +kernel
theorem dX4_lineStart_3 : decode cX4_lineStart 3 = .ok (.ifCond .le 19, 3) := by decide +kernel
theorem dX4_lineStart_6 : decode cX4_lineStart 6 = .ok (.aload_n 0, 1) := by decide +kernel
theorem dX4_lineStart_7 : decode cX4_lineStart 7 = .ok (.iload_n 2, 1) := by decide +kernel
theorem dX4_lineStart_8 : decode cX4_lineStart 8 = .ok (.iconst 1, 1) := by decide +kernel
theorem dX4_lineStart_9 : decode cX4_lineStart 9 = .ok (.isub, 1) := by decide +kernel
theorem dX4_lineStart_10 : decode cX4_lineStart 10 = .ok (.invokevirtual 69, 3) := by decide +kernel
theorem dX4_lineStart_13 : decode cX4_lineStart 13 = .ok (.ifCond .ne 9, 3) := by decide +kernel
theorem dX4_lineStart_16 : decode cX4_lineStart 16 = .ok (.iinc 2 (-1), 3) := by decide +kernel
theorem dX4_lineStart_19 : decode cX4_lineStart 19 = .ok (.goto (-17), 3) := by decide +kernel
theorem dX4_lineStart_22 : decode cX4_lineStart 22 = .ok (.iload_n 2, 1) := by decide +kernel
theorem dX4_lineStart_23 : decode cX4_lineStart 23 = .ok (.ireturn, 1) := by decide +kernel
theorem dX4_lineStop_0 : decode cX4_lineStop 0 = .ok (.iload_n 1, 1) := by decide +kernel
theorem dX4_lineStop_1 : decode cX4_lineStop 1 = .ok (.istore_n 2, 1) := by decide +kernel
theorem dX4_lineStop_2 : decode cX4_lineStop 2 = .ok (.iload_n 2, 1) := by decide +kernel
theorem dX4_lineStop_3 : decode cX4_lineStop 3 = .ok (.aload_n 0, 1) := by decide +kernel
theorem dX4_lineStop_4 : decode cX4_lineStop 4 = .ok (.getfield 14, 3) := by decide +kernel
theorem dX4_lineStop_7 : decode cX4_lineStop 7 = .ok (.invokevirtual 38, 3) := by decide +kernel
theorem dX4_lineStop_10 : decode cX4_lineStop 10 = .ok (.if_icmp .ge 17, 3) := by decide +kernel
theorem dX4_lineStop_13 : decode cX4_lineStop 13 = .ok (.aload_n 0, 1) := by decide +kernel
theorem dX4_lineStop_14 : decode cX4_lineStop 14 = .ok (.iload_n 2, 1) := by decide +kernel
theorem dX4_lineStop_15 : decode cX4_lineStop 15 = .ok (.invokevirtual 69, 3) := by decide +kernel
theorem dX4_lineStop_18 : decode cX4_lineStop 18 = .ok (.ifCond .ne 9, 3) := by decide +kernel
theorem dX4_lineStop_21 : decode cX4_lineStop 21 = .ok (.iinc 2 1, 3) := by decide +kernel
theorem dX4_lineStop_24 : decode cX4_lineStop 24 = .ok (.goto (-22), 3) := by decide +kernel
theorem dX4_lineStop_27 : decode cX4_lineStop 27 = .ok (.iload_n 2, 1) := by decide +kernel
theorem dX4_lineStop_28 : decode cX4_lineStop 28 = .ok (.ireturn, 1) := by decide +kernel
theorem dX4_lineStartOver_0 : decode cX4_lineStartOver 0 = .ok (.aload_n 0, 1) := by decide +kernel
theorem dX4_lineStartOver_1 : decode cX4_lineStartOver 1 = .ok (.iload_n 1, 1) := by decide +kernel
theorem dX4_lineStartOver_2 : decode cX4_lineStartOver 2 = .ok (.invokevirtual 72, 3) := by decide +kernel
theorem dX4_lineStartOver_5 : decode cX4_lineStartOver 5 = .ok (.istore_n 3, 1) := by decide +kernel
theorem dX4_lineStartOver_6 : decode cX4_lineStartOver 6 = .ok (.iconst 0, 1) := by decide +kernel
theorem dX4_lineStartOver_7 : decode cX4_lineStartOver 7 = .ok (.istore 4, 2) := by decide +kernel
theorem dX4_lineStartOver_9 : decode cX4_lineStartOver 9 = .ok (.iload 4, 2) := by decide +kernel
theorem dX4_lineStartOver_11 : decode cX4_lineStartOver 11 = .ok (.iload_n 2, 1) := by decide +kernel
theorem dX4_lineStartOver_12 : decode cX4_lineStartOver 12 = .ok (.if_icmp .ge 30, 3) := by decide +kernel
theorem dX4_lineStartOver_15 : decode cX4_lineStartOver 15 = .ok (.aload_n 0, 1) := by decide +kernel
theorem dX4_lineStartOver_16 : decode cX4_lineStartOver 16 = .ok (.iload_n 3, 1) := by decide +kernel
theorem dX4_lineStartOver_17 : decode cX4_lineStartOver 17 = .ok (.invokevirtual 75, 3) := by decide +kernel
theorem dX4_lineStartOver_20 : decode cX4_lineStartOver 20 = .ok (.iconst 1, 1) := by decide +kernel
theorem dX4_lineStartOver_21 : decode cX4_lineStartOver 21 = .ok (.iadd, 1) := by decide +kernel
theorem dX4_lineStartOver_22 : decode cX4_lineStartOver 22 = .ok (.istore_n 3, 1) := by decide +kernel
theorem dX4_lineStartOver_23 : decode cX4_lineStartOver 23 = .ok (.iload_n 3, 1) := by decide +kernel
theorem dX4_lineStartOver_24 : decode cX4_lineStartOver 24 = .ok (.aload_n 0, 1) := by decide +kernel
theorem dX4_lineStartOver_25 : decode cX4_lineStartOver 25 = .ok (.getfield 14, 3) := by decide +kernel
theorem dX4_lineStartOver_28 : decode cX4_lineStartOver 28 = .ok (.invokevirtual 38, 3) := by decide +kernel
theorem dX4_lineStartOver_31 : decode cX4_lineStartOver 31 = .ok (.if_icmp .le 5, 3) := by decide +kernel
theorem dX4_lineStartOver_34 : decode cX4_lineStartOver 34 = .ok (.iconst (-1), 1) := by decide +kernel
theorem dX4_lineStartOver_35 : decode cX4_lineStartOver 35 = .ok (.ireturn, 1) := by decide +kernel
theorem dX4_lineStartOver_36 : decode cX4_lineStartOver 36 = .ok (.iinc 4 1, 3) := by decide +kernel
theorem dX4_lineStartOver_39 : decode cX4_lineStartOver 39 = .ok (.goto (-30), 3) := by decide +kernel
theorem dX4_lineStartOver_42 : decode cX4_lineStartOver 42 = .ok (.iconst 0, 1) := by decide +kernel
theorem dX4_lineStartOver_43 : decode cX4_lineStartOver 43 = .ok (.istore 4, 2) := by decide +kernel
theorem dX4_lineStartOver_45 : decode cX4_lineStartOver 45 = .ok (.iload 4, 2) := by decide +kernel
theorem dX4_lineStartOver_47 : decode cX4_lineStartOver 47 = .ok (.iload_n 2, 1) := by decide +kernel
theorem dX4_lineStartOver_48 : decode cX4_lineStartOver 48 = .ok (.if_icmp .le 24, 3) := by decide +kernel
theorem dX4_lineStartOver_51 : decode cX4_lineStartOver 51 = .ok (.iload_n 3, 1) := by decide +kernel
theorem dX4_lineStartOver_52 : decode cX4_lineStartOver 52 = .ok (.iconst 1, 1) := by decide +kernel
theorem dX4_lineStartOver_53 : decode cX4_lineStartOver 53 = .ok (.if_icmp .ge 5, 3) := by decide +kernel
theorem dX4_lineStartOver_56 : decode cX4_lineStartOver 56 = .ok (.iconst (-1), 1) := by decide +kernel
theorem dX4_lineStartOver_57 : decode cX4_lineStartOver 57 = .ok (.ireturn, 1) := by decide +kernel
theorem dX4_lineStartOver_58 : decode cX4_lineStartOver 58 = .ok (.aload_n 0, 1) := by decide +kernel
theorem dX4_lineStartOver_59 : decode cX4_lineStartOver 59 = .ok (.iload_n 3, 1) := by decide +kernel
theorem dX4_lineStartOver_60 : decode cX4_lineStartOver 60 = .ok (.iconst 1, 1) := by decide +kernel
theorem dX4_lineStartOver_61 : decode cX4_lineStartOver 61 = .ok (.isub, 1) := by decide +kernel
theorem dX4_lineStartOver_62 : decode cX4_lineStartOver 62 = .ok (.invokevirtual 72, 3) := by decide +kernel
theorem dX4_lineStartOver_65 : decode cX4_lineStartOver 65 = .ok (.istore_n 3, 1) := by decide +kernel
theorem dX4_lineStartOver_66 : decode cX4_lineStartOver 66 = .ok (.iinc 4 (-1), 3) := by decide +kernel
theorem dX4_lineStartOver_69 : decode cX4_lineStartOver 69 = .ok (.goto (-24), 3) := by decide +kernel
theorem dX4_lineStartOver_72 : decode cX4_lineStartOver 72 = .ok (.iload_n 3, 1) := by decide +kernel
theorem dX4_lineStartOver_73 : decode cX4_lineStartOver 73 = .ok (.ireturn, 1) := by decide +kernel
theorem dX4_endsAhead_0 : decode cX4_endsAhead 0 = .ok (.iconst 0, 1) := by decide +kernel
theorem dX4_endsAhead_1 : decode cX4_endsAhead 1 = .ok (.istore_n 2, 1) := by decide +kernel
theorem dX4_endsAhead_2 : decode cX4_endsAhead 2 = .ok (.iconst 0, 1) := by decide +kernel
theorem dX4_endsAhead_3 : decode cX4_endsAhead 3 = .ok (.istore_n 3, 1) := by decide +kernel
theorem dX4_endsAhead_4 : decode cX4_endsAhead 4 = .ok (.iload_n 3, 1) := by decide +kernel
theorem dX4_endsAhead_5 : decode cX4_endsAhead 5 = .ok (.iload_n 1, 1) := by decide +kernel
theorem dX4_endsAhead_6 : decode cX4_endsAhead 6 = .ok (.if_icmp .ge 20, 3) := by decide +kernel
theorem dX4_endsAhead_9 : decode cX4_endsAhead 9 = .ok (.aload_n 0, 1) := by decide +kernel
theorem dX4_endsAhead_10 : decode cX4_endsAhead 10 = .ok (.iload_n 3, 1) := by decide +kernel
theorem dX4_endsAhead_11 : decode cX4_endsAhead 11 = .ok (.invokevirtual 69, 3) := by decide +kernel
theorem dX4_endsAhead_14 : decode cX4_endsAhead 14 = .ok (.ifCond .eq 6, 3) := by decide +kernel
theorem dX4_endsAhead_17 : decode cX4_endsAhead 17 = .ok (.iinc 2 1, 3) := by decide +kernel
theorem dX4_endsAhead_20 : decode cX4_endsAhead 20 = .ok (.iinc 3 1, 3) := by decide +kernel
theorem dX4_endsAhead_23 : decode cX4_endsAhead 23 = .ok (.goto (-19), 3) := by decide +kernel
theorem dX4_endsAhead_26 : decode cX4_endsAhead 26 = .ok (.iload_n 2, 1) := by decide +kernel
theorem dX4_endsAhead_27 : decode cX4_endsAhead 27 = .ok (.ireturn, 1) := by decide +kernel
theorem dX4_linesGone_0 : decode cX4_linesGone 0 = .ok (.iconst 1, 1) := by decide +kernel
theorem dX4_linesGone_1 : decode cX4_linesGone 1 = .ok (.istore_n 1, 1) := by decide +kernel
theorem dX4_linesGone_2 : decode cX4_linesGone 2 = .ok (.aload_n 0, 1) := by decide +kernel
theorem dX4_linesGone_3 : decode cX4_linesGone 3 = .ok (.iconst 0, 1) := by decide +kernel
theorem dX4_linesGone_4 : decode cX4_linesGone 4 = .ok (.invokevirtual 75, 3) := by decide +kernel
theorem dX4_linesGone_7 : decode cX4_linesGone 7 = .ok (.istore_n 2, 1) := by decide +kernel
theorem dX4_linesGone_8 : decode cX4_linesGone 8 = .ok (.iconst 0, 1) := by decide +kernel
theorem dX4_linesGone_9 : decode cX4_linesGone 9 = .ok (.istore_n 3, 1) := by decide +kernel
theorem dX4_linesGone_10 : decode cX4_linesGone 10 = .ok (.iload_n 3, 1) := by decide +kernel
theorem dX4_linesGone_11 : decode cX4_linesGone 11 = .ok (.aload_n 0, 1) := by decide +kernel
theorem dX4_linesGone_12 : decode cX4_linesGone 12 = .ok (.getfield 14, 3) := by decide +kernel
theorem dX4_linesGone_15 : decode cX4_linesGone 15 = .ok (.invokevirtual 38, 3) := by decide +kernel
theorem dX4_linesGone_18 : decode cX4_linesGone 18 = .ok (.if_icmp .ge 31, 3) := by decide +kernel
theorem dX4_linesGone_21 : decode cX4_linesGone 21 = .ok (.iload_n 2, 1) := by decide +kernel
theorem dX4_linesGone_22 : decode cX4_linesGone 22 = .ok (.aload_n 0, 1) := by decide +kernel
theorem dX4_linesGone_23 : decode cX4_linesGone 23 = .ok (.getfield 14, 3) := by decide +kernel
theorem dX4_linesGone_26 : decode cX4_linesGone 26 = .ok (.invokevirtual 38, 3) := by decide +kernel
theorem dX4_linesGone_29 : decode cX4_linesGone 29 = .ok (.if_icmp .ge 20, 3) := by decide +kernel
theorem dX4_linesGone_32 : decode cX4_linesGone 32 = .ok (.iinc 1 1, 3) := by decide +kernel
theorem dX4_linesGone_35 : decode cX4_linesGone 35 = .ok (.aload_n 0, 1) := by decide +kernel
theorem dX4_linesGone_36 : decode cX4_linesGone 36 = .ok (.iload_n 2, 1) := by decide +kernel
theorem dX4_linesGone_37 : decode cX4_linesGone 37 = .ok (.iconst 1, 1) := by decide +kernel
theorem dX4_linesGone_38 : decode cX4_linesGone 38 = .ok (.iadd, 1) := by decide +kernel
theorem dX4_linesGone_39 : decode cX4_linesGone 39 = .ok (.invokevirtual 75, 3) := by decide +kernel
theorem dX4_linesGone_42 : decode cX4_linesGone 42 = .ok (.istore_n 2, 1) := by decide +kernel
theorem dX4_linesGone_43 : decode cX4_linesGone 43 = .ok (.iinc 3 1, 3) := by decide +kernel
theorem dX4_linesGone_46 : decode cX4_linesGone 46 = .ok (.goto (-36), 3) := by decide +kernel
theorem dX4_linesGone_49 : decode cX4_linesGone 49 = .ok (.iload_n 1, 1) := by decide +kernel
theorem dX4_linesGone_50 : decode cX4_linesGone 50 = .ok (.ireturn, 1) := by decide +kernel
theorem dX4_longest_0 : decode cX4_longest 0 = .ok (.iconst 0, 1) := by decide +kernel
theorem dX4_longest_1 : decode cX4_longest 1 = .ok (.istore_n 1, 1) := by decide +kernel
theorem dX4_longest_2 : decode cX4_longest 2 = .ok (.iconst 0, 1) := by decide +kernel
theorem dX4_longest_3 : decode cX4_longest 3 = .ok (.istore_n 2, 1) := by decide +kernel
theorem dX4_longest_4 : decode cX4_longest 4 = .ok (.iconst 0, 1) := by decide +kernel
theorem dX4_longest_5 : decode cX4_longest 5 = .ok (.istore_n 3, 1) := by decide +kernel
theorem dX4_longest_6 : decode cX4_longest 6 = .ok (.iload_n 3, 1) := by decide +kernel
theorem dX4_longest_7 : decode cX4_longest 7 = .ok (.aload_n 0, 1) := by decide +kernel
theorem dX4_longest_8 : decode cX4_longest 8 = .ok (.getfield 14, 3) := by decide +kernel
theorem dX4_longest_11 : decode cX4_longest 11 = .ok (.invokevirtual 38, 3) := by decide +kernel
theorem dX4_longest_14 : decode cX4_longest 14 = .ok (.if_icmp .gt 41, 3) := by decide +kernel
theorem dX4_longest_17 : decode cX4_longest 17 = .ok (.iload_n 2, 1) := by decide +kernel
theorem dX4_longest_18 : decode cX4_longest 18 = .ok (.aload_n 0, 1) := by decide +kernel
theorem dX4_longest_19 : decode cX4_longest 19 = .ok (.getfield 14, 3) := by decide +kernel
theorem dX4_longest_22 : decode cX4_longest 22 = .ok (.invokevirtual 38, 3) := by decide +kernel
theorem dX4_longest_25 : decode cX4_longest 25 = .ok (.if_icmp .gt 30, 3) := by decide +kernel
theorem dX4_longest_28 : decode cX4_longest 28 = .ok (.aload_n 0, 1) := by decide +kernel
theorem dX4_longest_29 : decode cX4_longest 29 = .ok (.iload_n 2, 1) := by decide +kernel
theorem dX4_longest_30 : decode cX4_longest 30 = .ok (.invokevirtual 75, 3) := by decide +kernel
theorem dX4_longest_33 : decode cX4_longest 33 = .ok (.istore 4, 2) := by decide +kernel
theorem dX4_longest_35 : decode cX4_longest 35 = .ok (.iload_n 1, 1) := by decide +kernel
theorem dX4_longest_36 : decode cX4_longest 36 = .ok (.iload 4, 2) := by decide +kernel
theorem dX4_longest_38 : decode cX4_longest 38 = .ok (.iload_n 2, 1) := by decide +kernel
theorem dX4_longest_39 : decode cX4_longest 39 = .ok (.isub, 1) := by decide +kernel
theorem dX4_longest_40 : decode cX4_longest 40 = .ok (.invokestatic 82, 3) := by decide +kernel
theorem dX4_longest_43 : decode cX4_longest 43 = .ok (.istore_n 1, 1) := by decide +kernel
theorem dX4_longest_44 : decode cX4_longest 44 = .ok (.iload 4, 2) := by decide +kernel
theorem dX4_longest_46 : decode cX4_longest 46 = .ok (.iconst 1, 1) := by decide +kernel
theorem dX4_longest_47 : decode cX4_longest 47 = .ok (.iadd, 1) := by decide +kernel
theorem dX4_longest_48 : decode cX4_longest 48 = .ok (.istore_n 2, 1) := by decide +kernel
theorem dX4_longest_49 : decode cX4_longest 49 = .ok (.iinc 3 1, 3) := by decide +kernel
theorem dX4_longest_52 : decode cX4_longest 52 = .ok (.goto (-46), 3) := by decide +kernel
theorem dX4_longest_55 : decode cX4_longest 55 = .ok (.iload_n 1, 1) := by decide +kernel
theorem dX4_longest_56 : decode cX4_longest 56 = .ok (.ireturn, 1) := by decide +kernel
theorem dX4_wordsBegun_0 : decode cX4_wordsBegun 0 = .ok (.iconst 0, 1) := by decide +kernel
theorem dX4_wordsBegun_1 : decode cX4_wordsBegun 1 = .ok (.istore_n 1, 1) := by decide +kernel
theorem dX4_wordsBegun_2 : decode cX4_wordsBegun 2 = .ok (.iconst 0, 1) := by decide +kernel
theorem dX4_wordsBegun_3 : decode cX4_wordsBegun 3 = .ok (.istore_n 2, 1) := by decide +kernel
theorem dX4_wordsBegun_4 : decode cX4_wordsBegun 4 = .ok (.iload_n 2, 1) := by decide +kernel
theorem dX4_wordsBegun_5 : decode cX4_wordsBegun 5 = .ok (.aload_n 0, 1) := by decide +kernel
theorem dX4_wordsBegun_6 : decode cX4_wordsBegun 6 = .ok (.getfield 14, 3) := by decide +kernel
theorem dX4_wordsBegun_9 : decode cX4_wordsBegun 9 = .ok (.invokevirtual 38, 3) := by decide +kernel
theorem dX4_wordsBegun_12 : decode cX4_wordsBegun 12 = .ok (.if_icmp .ge 30, 3) := by decide +kernel
theorem dX4_wordsBegun_15 : decode cX4_wordsBegun 15 = .ok (.aload_n 0, 1) := by decide +kernel
theorem dX4_wordsBegun_16 : decode cX4_wordsBegun 16 = .ok (.iload_n 2, 1) := by decide +kernel
theorem dX4_wordsBegun_17 : decode cX4_wordsBegun 17 = .ok (.invokevirtual 66, 3) := by decide +kernel
theorem dX4_wordsBegun_20 : decode cX4_wordsBegun 20 = .ok (.ifCond .eq 16, 3) := by decide +kernel
theorem dX4_wordsBegun_23 : decode cX4_wordsBegun 23 = .ok (.aload_n 0, 1) := by decide +kernel
theorem dX4_wordsBegun_24 : decode cX4_wordsBegun 24 = .ok (.iload_n 2, 1) := by decide +kernel
theorem dX4_wordsBegun_25 : decode cX4_wordsBegun 25 = .ok (.iconst 1, 1) := by decide +kernel
theorem dX4_wordsBegun_26 : decode cX4_wordsBegun 26 = .ok (.isub, 1) := by decide +kernel
theorem dX4_wordsBegun_27 : decode cX4_wordsBegun 27 = .ok (.invokevirtual 66, 3) := by decide +kernel
theorem dX4_wordsBegun_30 : decode cX4_wordsBegun 30 = .ok (.ifCond .ne 6, 3) := by decide +kernel
theorem dX4_wordsBegun_33 : decode cX4_wordsBegun 33 = .ok (.iinc 1 1, 3) := by decide +kernel
theorem dX4_wordsBegun_36 : decode cX4_wordsBegun 36 = .ok (.iinc 2 1, 3) := by decide +kernel
theorem dX4_wordsBegun_39 : decode cX4_wordsBegun 39 = .ok (.goto (-35), 3) := by decide +kernel
theorem dX4_wordsBegun_42 : decode cX4_wordsBegun 42 = .ok (.iload_n 1, 1) := by decide +kernel
theorem dX4_wordsBegun_43 : decode cX4_wordsBegun 43 = .ok (.ireturn, 1) := by decide +kernel
theorem dX4_wordsGone_0 : decode cX4_wordsGone 0 = .ok (.iconst 0, 1) := by decide +kernel
theorem dX4_wordsGone_1 : decode cX4_wordsGone 1 = .ok (.istore_n 1, 1) := by decide +kernel
theorem dX4_wordsGone_2 : decode cX4_wordsGone 2 = .ok (.iconst 0, 1) := by decide +kernel
theorem dX4_wordsGone_3 : decode cX4_wordsGone 3 = .ok (.istore_n 2, 1) := by decide +kernel
theorem dX4_wordsGone_4 : decode cX4_wordsGone 4 = .ok (.iconst 0, 1) := by decide +kernel
theorem dX4_wordsGone_5 : decode cX4_wordsGone 5 = .ok (.istore_n 3, 1) := by decide +kernel
theorem dX4_wordsGone_6 : decode cX4_wordsGone 6 = .ok (.iload_n 3, 1) := by decide +kernel
theorem dX4_wordsGone_7 : decode cX4_wordsGone 7 = .ok (.aload_n 0, 1) := by decide +kernel
theorem dX4_wordsGone_8 : decode cX4_wordsGone 8 = .ok (.getfield 14, 3) := by decide +kernel
theorem dX4_wordsGone_11 : decode cX4_wordsGone 11 = .ok (.invokevirtual 38, 3) := by decide +kernel
theorem dX4_wordsGone_14 : decode cX4_wordsGone 14 = .ok (.if_icmp .ge 39, 3) := by decide +kernel
theorem dX4_wordsGone_17 : decode cX4_wordsGone 17 = .ok (.iload_n 2, 1) := by decide +kernel
theorem dX4_wordsGone_18 : decode cX4_wordsGone 18 = .ok (.aload_n 0, 1) := by decide +kernel
theorem dX4_wordsGone_19 : decode cX4_wordsGone 19 = .ok (.getfield 14, 3) := by decide +kernel
theorem dX4_wordsGone_22 : decode cX4_wordsGone 22 = .ok (.invokevirtual 38, 3) := by decide +kernel
theorem dX4_wordsGone_25 : decode cX4_wordsGone 25 = .ok (.if_icmp .ge 28, 3) := by decide +kernel
theorem dX4_wordsGone_28 : decode cX4_wordsGone 28 = .ok (.aload_n 0, 1) := by decide +kernel
theorem dX4_wordsGone_29 : decode cX4_wordsGone 29 = .ok (.iload_n 2, 1) := by decide +kernel
theorem dX4_wordsGone_30 : decode cX4_wordsGone 30 = .ok (.invokevirtual 86, 3) := by decide +kernel
theorem dX4_wordsGone_33 : decode cX4_wordsGone 33 = .ok (.istore_n 2, 1) := by decide +kernel
theorem dX4_wordsGone_34 : decode cX4_wordsGone 34 = .ok (.aload_n 0, 1) := by decide +kernel
theorem dX4_wordsGone_35 : decode cX4_wordsGone 35 = .ok (.iload_n 2, 1) := by decide +kernel
theorem dX4_wordsGone_36 : decode cX4_wordsGone 36 = .ok (.iconst 1, 1) := by decide +kernel
theorem dX4_wordsGone_37 : decode cX4_wordsGone 37 = .ok (.isub, 1) := by decide +kernel
theorem dX4_wordsGone_38 : decode cX4_wordsGone 38 = .ok (.invokevirtual 66, 3) := by decide +kernel
theorem dX4_wordsGone_41 : decode cX4_wordsGone 41 = .ok (.ifCond .eq 6, 3) := by decide +kernel
theorem dX4_wordsGone_44 : decode cX4_wordsGone 44 = .ok (.iinc 1 1, 3) := by decide +kernel
theorem dX4_wordsGone_47 : decode cX4_wordsGone 47 = .ok (.iinc 3 1, 3) := by decide +kernel
theorem dX4_wordsGone_50 : decode cX4_wordsGone 50 = .ok (.goto (-44), 3) := by decide +kernel
theorem dX4_wordsGone_53 : decode cX4_wordsGone 53 = .ok (.iload_n 1, 1) := by decide +kernel
theorem dX4_wordsGone_54 : decode cX4_wordsGone 54 = .ok (.ireturn, 1) := by decide +kernel
theorem dX5_init_0 : decode cX5_init 0 = .ok (.aload_n 0, 1) := by decide +kernel
theorem dX5_init_1 : decode cX5_init 1 = .ok (.invokespecial 3, 3) := by decide +kernel
theorem dX5_init_4 : decode cX5_init 4 = .ok (.aload_n 0, 1) := by decide +kernel
theorem dX5_init_5 : decode cX5_init 5 = .ok (.new 9, 3) := by decide +kernel
theorem dX5_init_8 : decode cX5_init 8 = .ok (.dup, 1) := by decide +kernel
theorem dX5_init_9 : decode cX5_init 9 = .ok (.invokespecial 11, 3) := by decide +kernel
theorem dX5_init_12 : decode cX5_init 12 = .ok (.putfield 12, 3) := by decide +kernel
theorem dX5_init_15 : decode cX5_init 15 = .ok (.aload_n 0, 1) := by decide +kernel
theorem dX5_init_16 : decode cX5_init 16 = .ok (.new 18, 3) := by decide +kernel
theorem dX5_init_19 : decode cX5_init 19 = .ok (.dup, 1) := by decide +kernel
theorem dX5_init_20 : decode cX5_init 20 = .ok (.invokespecial 20, 3) := by decide +kernel
theorem dX5_init_23 : decode cX5_init 23 = .ok (.putfield 21, 3) := by decide +kernel
theorem dX5_init_26 : decode cX5_init 26 = .ok (.aload_n 0, 1) := by decide +kernel
theorem dX5_init_27 : decode cX5_init 27 = .ok (.new 25, 3) := by decide +kernel
theorem dX5_init_30 : decode cX5_init 30 = .ok (.dup, 1) := by decide +kernel
theorem dX5_init_31 : decode cX5_init 31 = .ok (.invokespecial 27, 3) := by decide +kernel
theorem dX5_init_34 : decode cX5_init 34 = .ok (.putfield 28, 3) := by decide +kernel
theorem dX5_init_37 : decode cX5_init 37 = .ok (.aload_n 0, 1) := by decide +kernel
theorem dX5_init_38 : decode cX5_init 38 = .ok (.iconst 0, 1) := by decide +kernel
theorem dX5_init_39 : decode cX5_init 39 = .ok (.putfield 32, 3) := by decide +kernel
theorem dX5_init_42 : decode cX5_init 42 = .ok (.return_, 1) := by decide +kernel
theorem dX5_copyFrom_0 : decode cX5_copyFrom 0 = .ok (.aload_n 0, 1) := by decide +kernel
theorem dX5_copyFrom_1 : decode cX5_copyFrom 1 = .ok (.getfield 12, 3) := by decide +kernel
theorem dX5_copyFrom_4 : decode cX5_copyFrom 4 = .ok (.aload_n 1, 1) := by decide +kernel
theorem dX5_copyFrom_5 : decode cX5_copyFrom 5 = .ok (.getfield 12, 3) := by decide +kernel
theorem dX5_copyFrom_8 : decode cX5_copyFrom 8 = .ok (.invokevirtual 36, 3) := by decide +kernel
theorem dX5_copyFrom_11 : decode cX5_copyFrom 11 = .ok (.aload_n 0, 1) := by decide +kernel
theorem dX5_copyFrom_12 : decode cX5_copyFrom 12 = .ok (.getfield 21, 3) := by decide +kernel
theorem dX5_copyFrom_15 : decode cX5_copyFrom 15 = .ok (.aload_n 1, 1) := by decide +kernel
theorem dX5_copyFrom_16 : decode cX5_copyFrom 16 = .ok (.getfield 21, 3) := by decide +kernel
theorem dX5_copyFrom_19 : decode cX5_copyFrom 19 = .ok (.invokevirtual 40, 3) := by decide +kernel
theorem dX5_copyFrom_22 : decode cX5_copyFrom 22 = .ok (.aload_n 0, 1) := by decide +kernel
theorem dX5_copyFrom_23 : decode cX5_copyFrom 23 = .ok (.getfield 28, 3) := by decide +kernel
theorem dX5_copyFrom_26 : decode cX5_copyFrom 26 = .ok (.aload_n 1, 1) := by decide +kernel
theorem dX5_copyFrom_27 : decode cX5_copyFrom 27 = .ok (.getfield 28, 3) := by decide +kernel
theorem dX5_copyFrom_30 : decode cX5_copyFrom 30 = .ok (.invokevirtual 43, 3) := by decide +kernel
theorem dX5_copyFrom_33 : decode cX5_copyFrom 33 = .ok (.aload_n 0, 1) := by decide +kernel
theorem dX5_copyFrom_34 : decode cX5_copyFrom 34 = .ok (.aload_n 1, 1) := by decide +kernel
theorem dX5_copyFrom_35 : decode cX5_copyFrom 35 = .ok (.getfield 32, 3) := by decide +kernel
theorem dX5_copyFrom_38 : decode cX5_copyFrom 38 = .ok (.putfield 32, 3) := by decide +kernel
theorem dX5_copyFrom_41 : decode cX5_copyFrom 41 = .ok (.return_, 1) := by decide +kernel
theorem dX5_comeBackTo_0 : decode cX5_comeBackTo 0 = .ok (.aload_n 0, 1) := by decide +kernel
theorem dX5_comeBackTo_1 : decode cX5_comeBackTo 1 = .ok (.aload_n 1, 1) := by decide +kernel
theorem dX5_comeBackTo_2 : decode cX5_comeBackTo 2 = .ok (.invokevirtual 46, 3) := by decide +kernel
theorem dX5_comeBackTo_5 : decode cX5_comeBackTo 5 = .ok (.aload_n 0, 1) := by decide +kernel
theorem dX5_comeBackTo_6 : decode cX5_comeBackTo 6 = .ok (.iconst 0, 1) := by decide +kernel
theorem dX5_comeBackTo_7 : decode cX5_comeBackTo 7 = .ok (.putfield 32, 3) := by decide +kernel
theorem dX5_comeBackTo_10 : decode cX5_comeBackTo 10 = .ok (.return_, 1) := by decide +kernel
theorem dX5_doDeed_0 : decode cX5_doDeed 0 = .ok (.iload_n 1, 1) := by decide +kernel
theorem dX5_doDeed_1 : decode cX5_doDeed 1 = .ok (.tableswitch 481 39 121 #[475, 481, 481, 481, 481, 481, 481, 481, 481, 481, 481, 481, 481, 481, 481, 481, 481, 481, 481, 481, 481, 481, 481, 481, 481, 481, 481, 380, 481, 481, 481, 375, 481, 481, 481, 481, 481, 481, 481, 481, 481, 481, 481, 481, 481, 481, 481, 481, 410, 481, 481, 481, 481, 481, 481, 481, 468, 481, 385, 361, 425, 481, 390, 347, 456, 481, 481, 481, 415, 481, 395, 461, 481, 435, 481, 420, 451, 440, 446, 481, 405, 400, 430], 347) := by decide +kernel
theorem dX5_doDeed_348 : decode cX5_doDeed 348 = .ok (.aload_n 0, 1) := by decide +kernel
theorem dX5_doDeed_349 : decode cX5_doDeed 349 = .ok (.aload_n 0, 1) := by decide +kernel
theorem dX5_doDeed_350 : decode cX5_doDeed 350 = .ok (.getfield 12, 3) := by decide +kernel
theorem dX5_doDeed_353 : decode cX5_doDeed 353 = .ok (.getfield 49, 3) := by decide +kernel
theorem dX5_doDeed_356 : decode cX5_doDeed 356 = .ok (.iconst 1, 1) := by decide +kernel
theorem dX5_doDeed_357 : decode cX5_doDeed 357 = .ok (.iadd, 1) := by decide +kernel
theorem dX5_doDeed_358 : decode cX5_doDeed 358 = .ok (.invokevirtual 52, 3) := by decide +kernel
theorem dX5_doDeed_361 : decode cX5_doDeed 361 = .ok (.ireturn, 1) := by decide +kernel
theorem dX5_doDeed_362 : decode cX5_doDeed 362 = .ok (.aload_n 0, 1) := by decide +kernel
theorem dX5_doDeed_363 : decode cX5_doDeed 363 = .ok (.aload_n 0, 1) := by decide +kernel
theorem dX5_doDeed_364 : decode cX5_doDeed 364 = .ok (.getfield 12, 3) := by decide +kernel
theorem dX5_doDeed_367 : decode cX5_doDeed 367 = .ok (.getfield 49, 3) := by decide +kernel
theorem dX5_doDeed_370 : decode cX5_doDeed 370 = .ok (.iconst 1, 1) := by decide +kernel
theorem dX5_doDeed_371 : decode cX5_doDeed 371 = .ok (.isub, 1) := by decide +kernel
theorem dX5_doDeed_372 : decode cX5_doDeed 372 = .ok (.invokevirtual 52, 3) := by decide +kernel
theorem dX5_doDeed_375 : decode cX5_doDeed 375 = .ok (.ireturn, 1) := by decide +kernel
theorem dX5_doDeed_376 : decode cX5_doDeed 376 = .ok (.aload_n 0, 1) := by decide +kernel
theorem dX5_doDeed_377 : decode cX5_doDeed 377 = .ok (.invokevirtual 56, 3) := by decide +kernel
theorem dX5_doDeed_380 : decode cX5_doDeed 380 = .ok (.ireturn, 1) := by decide +kernel
theorem dX5_doDeed_381 : decode cX5_doDeed 381 = .ok (.aload_n 0, 1) := by decide +kernel
theorem dX5_doDeed_382 : decode cX5_doDeed 382 = .ok (.invokevirtual 60, 3) := by decide +kernel
theorem dX5_doDeed_385 : decode cX5_doDeed 385 = .ok (.ireturn, 1) := by decide +kernel
theorem dX5_doDeed_386 : decode cX5_doDeed 386 = .ok (.aload_n 0, 1) := by decide +kernel
theorem dX5_doDeed_387 : decode cX5_doDeed 387 = .ok (.invokevirtual 63, 3) := by decide +kernel
theorem dX5_doDeed_390 : decode cX5_doDeed 390 = .ok (.ireturn, 1) := by decide +kernel
theorem dX5_doDeed_391 : decode cX5_doDeed 391 = .ok (.aload_n 0, 1) := by decide +kernel
theorem dX5_doDeed_392 : decode cX5_doDeed 392 = .ok (.invokevirtual 66, 3) := by decide +kernel
theorem dX5_doDeed_395 : decode cX5_doDeed 395 = .ok (.ireturn, 1) := by decide +kernel
theorem dX5_doDeed_396 : decode cX5_doDeed 396 = .ok (.aload_n 0, 1) := by decide +kernel
theorem dX5_doDeed_397 : decode cX5_doDeed 397 = .ok (.invokevirtual 69, 3) := by decide +kernel
theorem dX5_doDeed_400 : decode cX5_doDeed 400 = .ok (.ireturn, 1) := by decide +kernel
theorem dX5_doDeed_401 : decode cX5_doDeed 401 = .ok (.aload_n 0, 1) := by decide +kernel
theorem dX5_doDeed_402 : decode cX5_doDeed 402 = .ok (.invokevirtual 72, 3) := by decide +kernel
theorem dX5_doDeed_405 : decode cX5_doDeed 405 = .ok (.ireturn, 1) := by decide +kernel
theorem dX5_doDeed_406 : decode cX5_doDeed 406 = .ok (.aload_n 0, 1) := by decide +kernel
theorem dX5_doDeed_407 : decode cX5_doDeed 407 = .ok (.invokevirtual 75, 3) := by decide +kernel
theorem dX5_doDeed_410 : decode cX5_doDeed 410 = .ok (.ireturn, 1) := by decide +kernel
theorem dX5_doDeed_411 : decode cX5_doDeed 411 = .ok (.aload_n 0, 1) := by decide +kernel
theorem dX5_doDeed_412 : decode cX5_doDeed 412 = .ok (.invokevirtual 78, 3) := by decide +kernel
theorem dX5_doDeed_415 : decode cX5_doDeed 415 = .ok (.ireturn, 1) := by decide +kernel
theorem dX5_doDeed_416 : decode cX5_doDeed 416 = .ok (.aload_n 0, 1) := by decide +kernel
theorem dX5_doDeed_417 : decode cX5_doDeed 417 = .ok (.invokevirtual 81, 3) := by decide +kernel
theorem dX5_doDeed_420 : decode cX5_doDeed 420 = .ok (.ireturn, 1) := by decide +kernel
theorem dX5_doDeed_421 : decode cX5_doDeed 421 = .ok (.aload_n 0, 1) := by decide +kernel
theorem dX5_doDeed_422 : decode cX5_doDeed 422 = .ok (.invokevirtual 84, 3) := by decide +kernel
theorem dX5_doDeed_425 : decode cX5_doDeed 425 = .ok (.ireturn, 1) := by decide +kernel
theorem dX5_doDeed_426 : decode cX5_doDeed 426 = .ok (.aload_n 0, 1) := by decide +kernel
theorem dX5_doDeed_427 : decode cX5_doDeed 427 = .ok (.invokevirtual 87, 3) := by decide +kernel
theorem dX5_doDeed_430 : decode cX5_doDeed 430 = .ok (.ireturn, 1) := by decide +kernel
theorem dX5_doDeed_431 : decode cX5_doDeed 431 = .ok (.aload_n 0, 1) := by decide +kernel
theorem dX5_doDeed_432 : decode cX5_doDeed 432 = .ok (.invokevirtual 90, 3) := by decide +kernel
theorem dX5_doDeed_435 : decode cX5_doDeed 435 = .ok (.ireturn, 1) := by decide +kernel
theorem dX5_doDeed_436 : decode cX5_doDeed 436 = .ok (.aload_n 0, 1) := by decide +kernel
theorem dX5_doDeed_437 : decode cX5_doDeed 437 = .ok (.invokevirtual 93, 3) := by decide +kernel
theorem dX5_doDeed_440 : decode cX5_doDeed 440 = .ok (.ireturn, 1) := by decide +kernel
theorem dX5_doDeed_441 : decode cX5_doDeed 441 = .ok (.aload_n 0, 1) := by decide +kernel
theorem dX5_doDeed_442 : decode cX5_doDeed 442 = .ok (.iconst 1, 1) := by decide +kernel
theorem dX5_doDeed_443 : decode cX5_doDeed 443 = .ok (.invokevirtual 96, 3) := by decide +kernel
theorem dX5_doDeed_446 : decode cX5_doDeed 446 = .ok (.ireturn, 1) := by decide +kernel
theorem dX5_doDeed_447 : decode cX5_doDeed 447 = .ok (.aload_n 0, 1) := by decide +kernel
theorem dX5_doDeed_448 : decode cX5_doDeed 448 = .ok (.invokevirtual 99, 3) := by decide +kernel
theorem dX5_doDeed_451 : decode cX5_doDeed 451 = .ok (.ireturn, 1) := by decide +kernel
theorem dX5_doDeed_452 : decode cX5_doDeed 452 = .ok (.aload_n 0, 1) := by decide +kernel
theorem dX5_doDeed_453 : decode cX5_doDeed 453 = .ok (.invokevirtual 102, 3) := by decide +kernel
theorem dX5_doDeed_456 : decode cX5_doDeed 456 = .ok (.ireturn, 1) := by decide +kernel
theorem dX5_doDeed_457 : decode cX5_doDeed 457 = .ok (.aload_n 0, 1) := by decide +kernel
theorem dX5_doDeed_458 : decode cX5_doDeed 458 = .ok (.invokevirtual 105, 3) := by decide +kernel
theorem dX5_doDeed_461 : decode cX5_doDeed 461 = .ok (.ireturn, 1) := by decide +kernel
theorem dX5_doDeed_462 : decode cX5_doDeed 462 = .ok (.aload_n 0, 1) := by decide +kernel
theorem dX5_doDeed_463 : decode cX5_doDeed 463 = .ok (.bipush 10, 2) := by decide +kernel
theorem dX5_doDeed_465 : decode cX5_doDeed 465 = .ok (.invokevirtual 108, 3) := by decide +kernel
theorem dX5_doDeed_468 : decode cX5_doDeed 468 = .ok (.ireturn, 1) := by decide +kernel
theorem dX5_doDeed_469 : decode cX5_doDeed 469 = .ok (.aload_n 0, 1) := by decide +kernel
theorem dX5_doDeed_470 : decode cX5_doDeed 470 = .ok (.bipush 32, 2) := by decide +kernel
theorem dX5_doDeed_472 : decode cX5_doDeed 472 = .ok (.invokevirtual 108, 3) := by decide +kernel
theorem dX5_doDeed_475 : decode cX5_doDeed 475 = .ok (.ireturn, 1) := by decide +kernel
theorem dX5_doDeed_476 : decode cX5_doDeed 476 = .ok (.aload_n 0, 1) := by decide +kernel
theorem dX5_doDeed_477 : decode cX5_doDeed 477 = .ok (.iload_n 2, 1) := by decide +kernel
theorem dX5_doDeed_478 : decode cX5_doDeed 478 = .ok (.invokevirtual 108, 3) := by decide +kernel
theorem dX5_doDeed_481 : decode cX5_doDeed 481 = .ok (.ireturn, 1) := by decide +kernel
theorem dX5_doDeed_482 : decode cX5_doDeed 482 = .ok (.iconst (-1), 1) := by decide +kernel
theorem dX5_doDeed_483 : decode cX5_doDeed 483 = .ok (.ireturn, 1) := by decide +kernel
theorem dX5_writeCode_0 : decode cX5_writeCode 0 = .ok (.aload_n 0, 1) := by decide +kernel
theorem dX5_writeCode_1 : decode cX5_writeCode 1 = .ok (.getfield 12, 3) := by decide +kernel
theorem dX5_writeCode_4 : decode cX5_writeCode 4 = .ok (.getfield 111, 3) := by decide +kernel
theorem dX5_writeCode_7 : decode cX5_writeCode 7 = .ok (.invokevirtual 115, 3) := by decide +kernel
theorem dX5_writeCode_10 : decode cX5_writeCode 10 = .ok (.iconst 1, 1) := by decide +kernel
theorem dX5_writeCode_11 : decode cX5_writeCode 11 = .ok (.if_icmp .ge 5, 3) := by decide +kernel
theorem dX5_writeCode_14 : decode cX5_writeCode 14 = .ok (.iconst (-1), 1) := by decide +kernel
theorem dX5_writeCode_15 : decode cX5_writeCode 15 = .ok (.ireturn, 1) := by decide +kernel
theorem dX5_writeCode_16 : decode cX5_writeCode 16 = .ok (.aload_n 0, 1) := by decide +kernel
theorem dX5_writeCode_17 : decode cX5_writeCode 17 = .ok (.getfield 12, 3) := by decide +kernel
theorem dX5_writeCode_20 : decode cX5_writeCode 20 = .ok (.iload_n 1, 1) := by decide +kernel
theorem dX5_writeCode_21 : decode cX5_writeCode 21 = .ok (.invokevirtual 120, 3) := by decide +kernel
theorem dX5_writeCode_24 : decode cX5_writeCode 24 = .ok (.aload_n 0, 1) := by decide +kernel
theorem dX5_writeCode_25 : decode cX5_writeCode 25 = .ok (.getfield 28, 3) := by decide +kernel
theorem dX5_writeCode_28 : decode cX5_writeCode 28 = .ok (.dup, 1) := by decide +kernel
theorem dX5_writeCode_29 : decode cX5_writeCode 29 = .ok (.getfield 123, 3) := by decide +kernel
theorem dX5_writeCode_32 : decode cX5_writeCode 32 = .ok (.iconst 1, 1) := by decide +kernel
theorem dX5_writeCode_33 : decode cX5_writeCode 33 = .ok (.iadd, 1) := by decide +kernel
theorem dX5_writeCode_34 : decode cX5_writeCode 34 = .ok (.putfield 123, 3) := by decide +kernel
theorem dX5_writeCode_37 : decode cX5_writeCode 37 = .ok (.aload_n 0, 1) := by decide +kernel
theorem dX5_writeCode_38 : decode cX5_writeCode 38 = .ok (.iconst 0, 1) := by decide +kernel
theorem dX5_writeCode_39 : decode cX5_writeCode 39 = .ok (.putfield 32, 3) := by decide +kernel
theorem dX5_writeCode_42 : decode cX5_writeCode 42 = .ok (.aload_n 0, 1) := by decide +kernel
theorem dX5_writeCode_43 : decode cX5_writeCode 43 = .ok (.getfield 12, 3) := by decide +kernel
theorem dX5_writeCode_46 : decode cX5_writeCode 46 = .ok (.getfield 111, 3) := by decide +kernel
theorem dX5_writeCode_49 : decode cX5_writeCode 49 = .ok (.invokevirtual 126, 3) := by decide +kernel
theorem dX5_writeCode_52 : decode cX5_writeCode 52 = .ok (.ireturn, 1) := by decide +kernel
theorem dX5_rubOut_0 : decode cX5_rubOut 0 = .ok (.aload_n 0, 1) := by decide +kernel
theorem dX5_rubOut_1 : decode cX5_rubOut 1 = .ok (.getfield 12, 3) := by decide +kernel
theorem dX5_rubOut_4 : decode cX5_rubOut 4 = .ok (.getfield 111, 3) := by decide +kernel
theorem dX5_rubOut_7 : decode cX5_rubOut 7 = .ok (.aload_n 0, 1) := by decide +kernel
theorem dX5_rubOut_8 : decode cX5_rubOut 8 = .ok (.getfield 12, 3) := by decide +kernel
theorem dX5_rubOut_11 : decode cX5_rubOut 11 = .ok (.getfield 49, 3) := by decide +kernel
theorem dX5_rubOut_14 : decode cX5_rubOut 14 = .ok (.iconst 1, 1) := by decide +kernel
theorem dX5_rubOut_15 : decode cX5_rubOut 15 = .ok (.isub, 1) := by decide +kernel
theorem dX5_rubOut_16 : decode cX5_rubOut 16 = .ok (.invokevirtual 129, 3) := by decide +kernel
theorem dX5_rubOut_19 : decode cX5_rubOut 19 = .ok (.istore_n 1, 1) := by decide +kernel
theorem dX5_rubOut_20 : decode cX5_rubOut 20 = .ok (.iload_n 1, 1) := by decide +kernel
theorem dX5_rubOut_21 : decode cX5_rubOut 21 = .ok (.iconst (-1), 1) := by decide +kernel
theorem dX5_rubOut_22 : decode cX5_rubOut 22 = .ok (.if_icmp .ne 5, 3) := by decide +kernel
theorem dX5_rubOut_25 : decode cX5_rubOut 25 = .ok (.iconst (-1), 1) := by decide +kernel
theorem dX5_rubOut_26 : decode cX5_rubOut 26 = .ok (.ireturn, 1) := by decide +kernel
theorem dX5_rubOut_27 : decode cX5_rubOut 27 = .ok (.aload_n 0, 1) := by decide +kernel
theorem dX5_rubOut_28 : decode cX5_rubOut 28 = .ok (.getfield 12, 3) := by decide +kernel
theorem dX5_rubOut_31 : decode cX5_rubOut 31 = .ok (.aload_n 0, 1) := by decide +kernel
theorem dX5_rubOut_32 : decode cX5_rubOut 32 = .ok (.getfield 12, 3) := by decide +kernel
theorem dX5_rubOut_35 : decode cX5_rubOut 35 = .ok (.getfield 49, 3) := by decide +kernel
theorem dX5_rubOut_38 : decode cX5_rubOut 38 = .ok (.iconst 1, 1) := by decide +kernel
theorem dX5_rubOut_39 : decode cX5_rubOut 39 = .ok (.isub, 1) := by decide +kernel
theorem dX5_rubOut_40 : decode cX5_rubOut 40 = .ok (.aload_n 0, 1) := by decide +kernel
theorem dX5_rubOut_41 : decode cX5_rubOut 41 = .ok (.getfield 12, 3) := by decide +kernel
theorem dX5_rubOut_44 : decode cX5_rubOut 44 = .ok (.getfield 49, 3) := by decide +kernel
theorem dX5_rubOut_47 : decode cX5_rubOut 47 = .ok (.invokevirtual 132, 3) := by decide +kernel
theorem dX5_rubOut_50 : decode cX5_rubOut 50 = .ok (.aload_n 0, 1) := by decide +kernel
theorem dX5_rubOut_51 : decode cX5_rubOut 51 = .ok (.getfield 28, 3) := by decide +kernel
theorem dX5_rubOut_54 : decode cX5_rubOut 54 = .ok (.dup, 1) := by decide +kernel
theorem dX5_rubOut_55 : decode cX5_rubOut 55 = .ok (.getfield 136, 3) := by decide +kernel
theorem dX5_rubOut_58 : decode cX5_rubOut 58 = .ok (.iconst 1, 1) := by decide +kernel
theorem dX5_rubOut_59 : decode cX5_rubOut 59 = .ok (.iadd, 1) := by decide +kernel
theorem dX5_rubOut_60 : decode cX5_rubOut 60 = .ok (.putfield 136, 3) := by decide +kernel
theorem dX5_rubOut_63 : decode cX5_rubOut 63 = .ok (.aload_n 0, 1) := by decide +kernel
theorem dX5_rubOut_64 : decode cX5_rubOut 64 = .ok (.iconst 0, 1) := by decide +kernel
theorem dX5_rubOut_65 : decode cX5_rubOut 65 = .ok (.putfield 32, 3) := by decide +kernel
theorem dX5_rubOut_68 : decode cX5_rubOut 68 = .ok (.iload_n 1, 1) := by decide +kernel
theorem dX5_rubOut_69 : decode cX5_rubOut 69 = .ok (.ireturn, 1) := by decide +kernel
theorem dX5_swapBoth_0 : decode cX5_swapBoth 0 = .ok (.aload_n 0, 1) := by decide +kernel
theorem dX5_swapBoth_1 : decode cX5_swapBoth 1 = .ok (.getfield 12, 3) := by decide +kernel
theorem dX5_swapBoth_4 : decode cX5_swapBoth 4 = .ok (.getfield 111, 3) := by decide +kernel
theorem dX5_swapBoth_7 : decode cX5_swapBoth 7 = .ok (.aload_n 0, 1) := by decide +kernel
theorem dX5_swapBoth_8 : decode cX5_swapBoth 8 = .ok (.getfield 12, 3) := by decide +kernel
theorem dX5_swapBoth_11 : decode cX5_swapBoth 11 = .ok (.getfield 49, 3) := by decide +kernel
theorem dX5_swapBoth_14 : decode cX5_swapBoth 14 = .ok (.iconst 1, 1) := by decide +kernel
theorem dX5_swapBoth_15 : decode cX5_swapBoth 15 = .ok (.isub, 1) := by decide +kernel
theorem dX5_swapBoth_16 : decode cX5_swapBoth 16 = .ok (.invokevirtual 129, 3) := by decide +kernel
theorem dX5_swapBoth_19 : decode cX5_swapBoth 19 = .ok (.istore_n 1, 1) := by decide +kernel
theorem dX5_swapBoth_20 : decode cX5_swapBoth 20 = .ok (.aload_n 0, 1) := by decide +kernel
theorem dX5_swapBoth_21 : decode cX5_swapBoth 21 = .ok (.getfield 12, 3) := by decide +kernel
theorem dX5_swapBoth_24 : decode cX5_swapBoth 24 = .ok (.getfield 111, 3) := by decide +kernel
theorem dX5_swapBoth_27 : decode cX5_swapBoth 27 = .ok (.aload_n 0, 1) := by decide +kernel
theorem dX5_swapBoth_28 : decode cX5_swapBoth 28 = .ok (.getfield 12, 3) := by decide +kernel
theorem dX5_swapBoth_31 : decode cX5_swapBoth 31 = .ok (.getfield 49, 3) := by decide +kernel
theorem dX5_swapBoth_34 : decode cX5_swapBoth 34 = .ok (.invokevirtual 129, 3) := by decide +kernel
theorem dX5_swapBoth_37 : decode cX5_swapBoth 37 = .ok (.istore_n 2, 1) := by decide +kernel
theorem dX5_swapBoth_38 : decode cX5_swapBoth 38 = .ok (.iload_n 1, 1) := by decide +kernel
theorem dX5_swapBoth_39 : decode cX5_swapBoth 39 = .ok (.iconst (-1), 1) := by decide +kernel
theorem dX5_swapBoth_40 : decode cX5_swapBoth 40 = .ok (.if_icmp .eq 8, 3) := by decide +kernel
theorem dX5_swapBoth_43 : decode cX5_swapBoth 43 = .ok (.iload_n 2, 1) := by decide +kernel
theorem dX5_swapBoth_44 : decode cX5_swapBoth 44 = .ok (.iconst (-1), 1) := by decide +kernel
theorem dX5_swapBoth_45 : decode cX5_swapBoth 45 = .ok (.if_icmp .ne 5, 3) := by decide +kernel
theorem dX5_swapBoth_48 : decode cX5_swapBoth 48 = .ok (.iconst (-1), 1) := by decide +kernel
theorem dX5_swapBoth_49 : decode cX5_swapBoth 49 = .ok (.ireturn, 1) := by decide +kernel
theorem dX5_swapBoth_50 : decode cX5_swapBoth 50 = .ok (.aload_n 0, 1) := by decide +kernel
theorem dX5_swapBoth_51 : decode cX5_swapBoth 51 = .ok (.getfield 12, 3) := by decide +kernel
theorem dX5_swapBoth_54 : decode cX5_swapBoth 54 = .ok (.getfield 111, 3) := by decide +kernel
theorem dX5_swapBoth_57 : decode cX5_swapBoth 57 = .ok (.aload_n 0, 1) := by decide +kernel
theorem dX5_swapBoth_58 : decode cX5_swapBoth 58 = .ok (.getfield 12, 3) := by decide +kernel
theorem dX5_swapBoth_61 : decode cX5_swapBoth 61 = .ok (.getfield 49, 3) := by decide +kernel
theorem dX5_swapBoth_64 : decode cX5_swapBoth 64 = .ok (.iconst 1, 1) := by decide +kernel
theorem dX5_swapBoth_65 : decode cX5_swapBoth 65 = .ok (.isub, 1) := by decide +kernel
theorem dX5_swapBoth_66 : decode cX5_swapBoth 66 = .ok (.iload_n 2, 1) := by decide +kernel
theorem dX5_swapBoth_67 : decode cX5_swapBoth 67 = .ok (.invokevirtual 139, 3) := by decide +kernel
theorem dX5_swapBoth_70 : decode cX5_swapBoth 70 = .ok (.aload_n 0, 1) := by decide +kernel
theorem dX5_swapBoth_71 : decode cX5_swapBoth 71 = .ok (.getfield 12, 3) := by decide +kernel
theorem dX5_swapBoth_74 : decode cX5_swapBoth 74 = .ok (.getfield 111, 3) := by decide +kernel
theorem dX5_swapBoth_77 : decode cX5_swapBoth 77 = .ok (.aload_n 0, 1) := by decide +kernel
theorem dX5_swapBoth_78 : decode cX5_swapBoth 78 = .ok (.getfield 12, 3) := by decide +kernel
theorem dX5_swapBoth_81 : decode cX5_swapBoth 81 = .ok (.getfield 49, 3) := by decide +kernel
theorem dX5_swapBoth_84 : decode cX5_swapBoth 84 = .ok (.iload_n 1, 1) := by decide +kernel
theorem dX5_swapBoth_85 : decode cX5_swapBoth 85 = .ok (.invokevirtual 139, 3) := by decide +kernel
theorem dX5_swapBoth_88 : decode cX5_swapBoth 88 = .ok (.aload_n 0, 1) := by decide +kernel
theorem dX5_swapBoth_89 : decode cX5_swapBoth 89 = .ok (.getfield 12, 3) := by decide +kernel
theorem dX5_swapBoth_92 : decode cX5_swapBoth 92 = .ok (.dup, 1) := by decide +kernel
theorem dX5_swapBoth_93 : decode cX5_swapBoth 93 = .ok (.getfield 49, 3) := by decide +kernel
theorem dX5_swapBoth_96 : decode cX5_swapBoth 96 = .ok (.iconst 1, 1) := by decide +kernel
theorem dX5_swapBoth_97 : decode cX5_swapBoth 97 = .ok (.iadd, 1) := by decide +kernel
theorem dX5_swapBoth_98 : decode cX5_swapBoth 98 = .ok (.putfield 49, 3) := by decide +kernel
theorem dX5_swapBoth_101 : decode cX5_swapBoth 101 = .ok (.aload_n 0, 1) := by decide +kernel
theorem dX5_swapBoth_102 : decode cX5_swapBoth 102 = .ok (.iconst 0, 1) := by decide +kernel
theorem dX5_swapBoth_103 : decode cX5_swapBoth 103 = .ok (.putfield 32, 3) := by decide +kernel
theorem dX5_swapBoth_106 : decode cX5_swapBoth 106 = .ok (.iload_n 1, 1) := by decide +kernel
theorem dX5_swapBoth_107 : decode cX5_swapBoth 107 = .ok (.ireturn, 1) := by decide +kernel
theorem dX5_makeGreat_0 : decode cX5_makeGreat 0 = .ok (.aload_n 0, 1) := by decide +kernel
theorem dX5_makeGreat_1 : decode cX5_makeGreat 1 = .ok (.getfield 12, 3) := by decide +kernel
theorem dX5_makeGreat_4 : decode cX5_makeGreat 4 = .ok (.aload_n 0, 1) := by decide +kernel
theorem dX5_makeGreat_5 : decode cX5_makeGreat 5 = .ok (.getfield 12, 3) := by decide +kernel
theorem dX5_makeGreat_8 : decode cX5_makeGreat 8 = .ok (.getfield 49, 3) := by decide +kernel
theorem dX5_makeGreat_11 : decode cX5_makeGreat 11 = .ok (.invokevirtual 142, 3) := by decide +kernel
theorem dX5_makeGreat_14 : decode cX5_makeGreat 14 = .ok (.istore_n 1, 1) := by decide +kernel
theorem dX5_makeGreat_15 : decode cX5_makeGreat 15 = .ok (.iconst 0, 1) := by decide +kernel
theorem dX5_makeGreat_16 : decode cX5_makeGreat 16 = .ok (.istore_n 2, 1) := by decide +kernel
theorem dX5_makeGreat_17 : decode cX5_makeGreat 17 = .ok (.aload_n 0, 1) := by decide +kernel
theorem dX5_makeGreat_18 : decode cX5_makeGreat 18 = .ok (.getfield 12, 3) := by decide +kernel
theorem dX5_makeGreat_21 : decode cX5_makeGreat 21 = .ok (.getfield 49, 3) := by decide +kernel
theorem dX5_makeGreat_24 : decode cX5_makeGreat 24 = .ok (.istore_n 3, 1) := by decide +kernel
theorem dX5_makeGreat_25 : decode cX5_makeGreat 25 = .ok (.iload_n 3, 1) := by decide +kernel
theorem dX5_makeGreat_26 : decode cX5_makeGreat 26 = .ok (.iload_n 1, 1) := by decide +kernel
theorem dX5_makeGreat_27 : decode cX5_makeGreat 27 = .ok (.if_icmp .ge 48, 3) := by decide +kernel
theorem dX5_makeGreat_30 : decode cX5_makeGreat 30 = .ok (.aload_n 0, 1) := by decide +kernel
theorem dX5_makeGreat_31 : decode cX5_makeGreat 31 = .ok (.getfield 12, 3) := by decide +kernel
theorem dX5_makeGreat_34 : decode cX5_makeGreat 34 = .ok (.iload_n 3, 1) := by decide +kernel
theorem dX5_makeGreat_35 : decode cX5_makeGreat 35 = .ok (.invokevirtual 145, 3) := by decide +kernel
theorem dX5_makeGreat_38 : decode cX5_makeGreat 38 = .ok (.ifCond .eq 31, 3) := by decide +kernel
theorem dX5_makeGreat_41 : decode cX5_makeGreat 41 = .ok (.aload_n 0, 1) := by decide +kernel
theorem dX5_makeGreat_42 : decode cX5_makeGreat 42 = .ok (.getfield 12, 3) := by decide +kernel
theorem dX5_makeGreat_45 : decode cX5_makeGreat 45 = .ok (.getfield 111, 3) := by decide +kernel
theorem dX5_makeGreat_48 : decode cX5_makeGreat 48 = .ok (.iload_n 3, 1) := by decide +kernel
theorem dX5_makeGreat_49 : decode cX5_makeGreat 49 = .ok (.aload_n 0, 1) := by decide +kernel
theorem dX5_makeGreat_50 : decode cX5_makeGreat 50 = .ok (.getfield 12, 3) := by decide +kernel
theorem dX5_makeGreat_53 : decode cX5_makeGreat 53 = .ok (.getfield 111, 3) := by decide +kernel
theorem dX5_makeGreat_56 : decode cX5_makeGreat 56 = .ok (.iload_n 3, 1) := by decide +kernel
theorem dX5_makeGreat_57 : decode cX5_makeGreat 57 = .ok (.invokevirtual 129, 3) := by decide +kernel
theorem dX5_makeGreat_60 : decode cX5_makeGreat 60 = .ok (.bipush (-32), 2) := by decide +kernel
theorem dX5_makeGreat_62 : decode cX5_makeGreat 62 = .ok (.iadd, 1) := by decide +kernel
theorem dX5_makeGreat_63 : decode cX5_makeGreat 63 = .ok (.invokevirtual 139, 3) := by decide +kernel
theorem dX5_makeGreat_66 : decode cX5_makeGreat 66 = .ok (.iinc 2 1, 3) := by decide +kernel
theorem dX5_makeGreat_69 : decode cX5_makeGreat 69 = .ok (.iinc 3 1, 3) := by decide +kernel
theorem dX5_makeGreat_72 : decode cX5_makeGreat 72 = .ok (.goto (-47), 3) := by decide +kernel
theorem dX5_makeGreat_75 : decode cX5_makeGreat 75 = .ok (.aload_n 0, 1) := by decide +kernel
theorem dX5_makeGreat_76 : decode cX5_makeGreat 76 = .ok (.getfield 12, 3) := by decide +kernel
theorem dX5_makeGreat_79 : decode cX5_makeGreat 79 = .ok (.iload_n 1, 1) := by decide +kernel
theorem dX5_makeGreat_80 : decode cX5_makeGreat 80 = .ok (.putfield 49, 3) := by decide +kernel
theorem dX5_makeGreat_83 : decode cX5_makeGreat 83 = .ok (.aload_n 0, 1) := by decide +kernel
theorem dX5_makeGreat_84 : decode cX5_makeGreat 84 = .ok (.iconst 0, 1) := by decide +kernel
theorem dX5_makeGreat_85 : decode cX5_makeGreat 85 = .ok (.putfield 32, 3) := by decide +kernel
theorem dX5_makeGreat_88 : decode cX5_makeGreat 88 = .ok (.iload_n 2, 1) := by decide +kernel
theorem dX5_makeGreat_89 : decode cX5_makeGreat 89 = .ok (.ireturn, 1) := by decide +kernel
theorem dX5_goPlace_0 : decode cX5_goPlace 0 = .ok (.iload_n 1, 1) := by decide +kernel
theorem dX5_goPlace_1 : decode cX5_goPlace 1 = .ok (.ifCond .lt 17, 3) := by decide +kernel
theorem dX5_goPlace_4 : decode cX5_goPlace 4 = .ok (.iload_n 1, 1) := by decide +kernel
theorem dX5_goPlace_5 : decode cX5_goPlace 5 = .ok (.aload_n 0, 1) := by decide +kernel
theorem dX5_goPlace_6 : decode cX5_goPlace 6 = .ok (.getfield 12, 3) := by decide +kernel
theorem dX5_goPlace_9 : decode cX5_goPlace 9 = .ok (.getfield 111, 3) := by decide +kernel
theorem dX5_goPlace_12 : decode cX5_goPlace 12 = .ok (.invokevirtual 126, 3) := by decide +kernel
theorem dX5_goPlace_15 : decode cX5_goPlace 15 = .ok (.if_icmp .le 5, 3) := by decide +kernel
theorem dX5_goPlace_18 : decode cX5_goPlace 18 = .ok (.iconst (-1), 1) := by decide +kernel
theorem dX5_goPlace_19 : decode cX5_goPlace 19 = .ok (.ireturn, 1) := by decide +kernel
theorem dX5_goPlace_20 : decode cX5_goPlace 20 = .ok (.aload_n 0, 1) := by decide +kernel
theorem dX5_goPlace_21 : decode cX5_goPlace 21 = .ok (.getfield 12, 3) := by decide +kernel
theorem dX5_goPlace_24 : decode cX5_goPlace 24 = .ok (.getfield 49, 3) := by decide +kernel
theorem dX5_goPlace_27 : decode cX5_goPlace 27 = .ok (.istore_n 2, 1) := by decide +kernel
theorem dX5_goPlace_28 : decode cX5_goPlace 28 = .ok (.aload_n 0, 1) := by decide +kernel
theorem dX5_goPlace_29 : decode cX5_goPlace 29 = .ok (.getfield 12, 3) := by decide +kernel
theorem dX5_goPlace_32 : decode cX5_goPlace 32 = .ok (.iload_n 1, 1) := by decide +kernel
theorem dX5_goPlace_33 : decode cX5_goPlace 33 = .ok (.putfield 49, 3) := by decide +kernel
theorem dX5_goPlace_36 : decode cX5_goPlace 36 = .ok (.aload_n 0, 1) := by decide +kernel
theorem dX5_goPlace_37 : decode cX5_goPlace 37 = .ok (.iconst 0, 1) := by decide +kernel
theorem dX5_goPlace_38 : decode cX5_goPlace 38 = .ok (.putfield 32, 3) := by decide +kernel
theorem dX5_goPlace_41 : decode cX5_goPlace 41 = .ok (.iload_n 2, 1) := by decide +kernel
theorem dX5_goPlace_42 : decode cX5_goPlace 42 = .ok (.ireturn, 1) := by decide +kernel
theorem dX5_goAsFarAs_0 : decode cX5_goAsFarAs 0 = .ok (.iload_n 1, 1) := by decide +kernel
theorem dX5_goAsFarAs_1 : decode cX5_goAsFarAs 1 = .ok (.aload_n 0, 1) := by decide +kernel
theorem dX5_goAsFarAs_2 : decode cX5_goAsFarAs 2 = .ok (.iload_n 1, 1) := by decide +kernel
theorem dX5_goAsFarAs_3 : decode cX5_goAsFarAs 3 = .ok (.invokevirtual 52, 3) := by decide +kernel
theorem dX5_goAsFarAs_6 : decode cX5_goAsFarAs 6 = .ok (.isub, 1) := by decide +kernel
theorem dX5_goAsFarAs_7 : decode cX5_goAsFarAs 7 = .ok (.invokestatic 149, 3) := by decide +kernel
theorem dX5_goAsFarAs_10 : decode cX5_goAsFarAs 10 = .ok (.ireturn, 1) := by decide +kernel
theorem dX5_goWordOn_0 : decode cX5_goWordOn 0 = .ok (.aload_n 0, 1) := by decide +kernel
theorem dX5_goWordOn_1 : decode cX5_goWordOn 1 = .ok (.aload_n 0, 1) := by decide +kernel
theorem dX5_goWordOn_2 : decode cX5_goWordOn 2 = .ok (.getfield 12, 3) := by decide +kernel
theorem dX5_goWordOn_5 : decode cX5_goWordOn 5 = .ok (.aload_n 0, 1) := by decide +kernel
theorem dX5_goWordOn_6 : decode cX5_goWordOn 6 = .ok (.getfield 12, 3) := by decide +kernel
theorem dX5_goWordOn_9 : decode cX5_goWordOn 9 = .ok (.getfield 49, 3) := by decide +kernel
theorem dX5_goWordOn_12 : decode cX5_goWordOn 12 = .ok (.invokevirtual 142, 3) := by decide +kernel
theorem dX5_goWordOn_15 : decode cX5_goWordOn 15 = .ok (.invokevirtual 154, 3) := by decide +kernel
theorem dX5_goWordOn_18 : decode cX5_goWordOn 18 = .ok (.ireturn, 1) := by decide +kernel
theorem dX5_goWordBack_0 : decode cX5_goWordBack 0 = .ok (.aload_n 0, 1) := by decide +kernel
theorem dX5_goWordBack_1 : decode cX5_goWordBack 1 = .ok (.aload_n 0, 1) := by decide +kernel
theorem dX5_goWordBack_2 : decode cX5_goWordBack 2 = .ok (.getfield 12, 3) := by decide +kernel
theorem dX5_goWordBack_5 : decode cX5_goWordBack 5 = .ok (.aload_n 0, 1) := by decide +kernel
theorem dX5_goWordBack_6 : decode cX5_goWordBack 6 = .ok (.getfield 12, 3) := by decide +kernel
theorem dX5_goWordBack_9 : decode cX5_goWordBack 9 = .ok (.getfield 49, 3) := by decide +kernel
theorem dX5_goWordBack_12 : decode cX5_goWordBack 12 = .ok (.invokevirtual 157, 3) := by decide +kernel
theorem dX5_goWordBack_15 : decode cX5_goWordBack 15 = .ok (.invokevirtual 154, 3) := by decide +kernel
theorem dX5_goWordBack_18 : decode cX5_goWordBack 18 = .ok (.ireturn, 1) := by decide +kernel
theorem dX5_goLineStart_0 : decode cX5_goLineStart 0 = .ok (.aload_n 0, 1) := by decide +kernel
theorem dX5_goLineStart_1 : decode cX5_goLineStart 1 = .ok (.aload_n 0, 1) := by decide +kernel
theorem dX5_goLineStart_2 : decode cX5_goLineStart 2 = .ok (.getfield 12, 3) := by decide +kernel
theorem dX5_goLineStart_5 : decode cX5_goLineStart 5 = .ok (.aload_n 0, 1) := by decide +kernel
theorem dX5_goLineStart_6 : decode cX5_goLineStart 6 = .ok (.getfield 12, 3) := by decide +kernel
theorem dX5_goLineStart_9 : decode cX5_goLineStart 9 = .ok (.getfield 49, 3) := by decide +kernel
theorem dX5_goLineStart_12 : decode cX5_goLineStart 12 = .ok (.invokevirtual 160, 3) := by decide +kernel
theorem dX5_goLineStart_15 : decode cX5_goLineStart 15 = .ok (.invokevirtual 154, 3) := by decide +kernel
theorem dX5_goLineStart_18 : decode cX5_goLineStart 18 = .ok (.ireturn, 1) := by decide +kernel
theorem dX5_goLineStop_0 : decode cX5_goLineStop 0 = .ok (.aload_n 0, 1) := by decide +kernel
theorem dX5_goLineStop_1 : decode cX5_goLineStop 1 = .ok (.aload_n 0, 1) := by decide +kernel
theorem dX5_goLineStop_2 : decode cX5_goLineStop 2 = .ok (.getfield 12, 3) := by decide +kernel
theorem dX5_goLineStop_5 : decode cX5_goLineStop 5 = .ok (.aload_n 0, 1) := by decide +kernel
theorem dX5_goLineStop_6 : decode cX5_goLineStop 6 = .ok (.getfield 12, 3) := by decide +kernel
theorem dX5_goLineStop_9 : decode cX5_goLineStop 9 = .ok (.getfield 49, 3) := by decide +kernel
theorem dX5_goLineStop_12 : decode cX5_goLineStop 12 = .ok (.invokevirtual 163, 3) := by decide +kernel
theorem dX5_goLineStop_15 : decode cX5_goLineStop 15 = .ok (.invokevirtual 154, 3) := by decide +kernel
theorem dX5_goLineStop_18 : decode cX5_goLineStop 18 = .ok (.ireturn, 1) := by decide +kernel
theorem dX5_goUpOrDown_0 : decode cX5_goUpOrDown 0 = .ok (.aload_n 0, 1) := by decide +kernel
theorem dX5_goUpOrDown_1 : decode cX5_goUpOrDown 1 = .ok (.getfield 12, 3) := by decide +kernel
theorem dX5_goUpOrDown_4 : decode cX5_goUpOrDown 4 = .ok (.aload_n 0, 1) := by decide +kernel
theorem dX5_goUpOrDown_5 : decode cX5_goUpOrDown 5 = .ok (.getfield 12, 3) := by decide +kernel
theorem dX5_goUpOrDown_8 : decode cX5_goUpOrDown 8 = .ok (.getfield 49, 3) := by decide +kernel
theorem dX5_goUpOrDown_11 : decode cX5_goUpOrDown 11 = .ok (.iload_n 1, 1) := by decide +kernel
theorem dX5_goUpOrDown_12 : decode cX5_goUpOrDown 12 = .ok (.invokevirtual 166, 3) := by decide +kernel
theorem dX5_goUpOrDown_15 : decode cX5_goUpOrDown 15 = .ok (.istore_n 2, 1) := by decide +kernel
theorem dX5_goUpOrDown_16 : decode cX5_goUpOrDown 16 = .ok (.iload_n 2, 1) := by decide +kernel
theorem dX5_goUpOrDown_17 : decode cX5_goUpOrDown 17 = .ok (.iconst (-1), 1) := by decide +kernel
theorem dX5_goUpOrDown_18 : decode cX5_goUpOrDown 18 = .ok (.if_icmp .ne 5, 3) := by decide +kernel
theorem dX5_goUpOrDown_21 : decode cX5_goUpOrDown 21 = .ok (.iconst (-1), 1) := by decide +kernel
theorem dX5_goUpOrDown_22 : decode cX5_goUpOrDown 22 = .ok (.ireturn, 1) := by decide +kernel
theorem dX5_goUpOrDown_23 : decode cX5_goUpOrDown 23 = .ok (.aload_n 0, 1) := by decide +kernel
theorem dX5_goUpOrDown_24 : decode cX5_goUpOrDown 24 = .ok (.getfield 12, 3) := by decide +kernel
theorem dX5_goUpOrDown_27 : decode cX5_goUpOrDown 27 = .ok (.getfield 49, 3) := by decide +kernel
theorem dX5_goUpOrDown_30 : decode cX5_goUpOrDown 30 = .ok (.aload_n 0, 1) := by decide +kernel
theorem dX5_goUpOrDown_31 : decode cX5_goUpOrDown 31 = .ok (.getfield 12, 3) := by decide +kernel
theorem dX5_goUpOrDown_34 : decode cX5_goUpOrDown 34 = .ok (.aload_n 0, 1) := by decide +kernel
theorem dX5_goUpOrDown_35 : decode cX5_goUpOrDown 35 = .ok (.getfield 12, 3) := by decide +kernel
theorem dX5_goUpOrDown_38 : decode cX5_goUpOrDown 38 = .ok (.getfield 49, 3) := by decide +kernel
theorem dX5_goUpOrDown_41 : decode cX5_goUpOrDown 41 = .ok (.invokevirtual 160, 3) := by decide +kernel
theorem dX5_goUpOrDown_44 : decode cX5_goUpOrDown 44 = .ok (.isub, 1) := by decide +kernel
theorem dX5_goUpOrDown_45 : decode cX5_goUpOrDown 45 = .ok (.istore_n 3, 1) := by decide +kernel
theorem dX5_goUpOrDown_46 : decode cX5_goUpOrDown 46 = .ok (.aload_n 0, 1) := by decide +kernel
theorem dX5_goUpOrDown_47 : decode cX5_goUpOrDown 47 = .ok (.iload_n 2, 1) := by decide +kernel
theorem dX5_goUpOrDown_48 : decode cX5_goUpOrDown 48 = .ok (.iload_n 3, 1) := by decide +kernel
theorem dX5_goUpOrDown_49 : decode cX5_goUpOrDown 49 = .ok (.iadd, 1) := by decide +kernel
theorem dX5_goUpOrDown_50 : decode cX5_goUpOrDown 50 = .ok (.aload_n 0, 1) := by decide +kernel
theorem dX5_goUpOrDown_51 : decode cX5_goUpOrDown 51 = .ok (.getfield 12, 3) := by decide +kernel
theorem dX5_goUpOrDown_54 : decode cX5_goUpOrDown 54 = .ok (.iload_n 2, 1) := by decide +kernel
theorem dX5_goUpOrDown_55 : decode cX5_goUpOrDown 55 = .ok (.invokevirtual 163, 3) := by decide +kernel
theorem dX5_goUpOrDown_58 : decode cX5_goUpOrDown 58 = .ok (.invokestatic 170, 3) := by decide +kernel
theorem dX5_goUpOrDown_61 : decode cX5_goUpOrDown 61 = .ok (.invokevirtual 52, 3) := by decide +kernel
theorem dX5_goUpOrDown_64 : decode cX5_goUpOrDown 64 = .ok (.pop, 1) := by decide +kernel
theorem dX5_goUpOrDown_65 : decode cX5_goUpOrDown 65 = .ok (.aload_n 0, 1) := by decide +kernel
theorem dX5_goUpOrDown_66 : decode cX5_goUpOrDown 66 = .ok (.getfield 12, 3) := by decide +kernel
theorem dX5_goUpOrDown_69 : decode cX5_goUpOrDown 69 = .ok (.getfield 49, 3) := by decide +kernel
theorem dX5_goUpOrDown_72 : decode cX5_goUpOrDown 72 = .ok (.ireturn, 1) := by decide +kernel
theorem dX5_setMark_0 : decode cX5_setMark 0 = .ok (.aload_n 0, 1) := by decide +kernel
theorem dX5_setMark_1 : decode cX5_setMark 1 = .ok (.getfield 12, 3) := by decide +kernel
theorem dX5_setMark_4 : decode cX5_setMark 4 = .ok (.aload_n 0, 1) := by decide +kernel
theorem dX5_setMark_5 : decode cX5_setMark 5 = .ok (.getfield 12, 3) := by decide +kernel
theorem dX5_setMark_8 : decode cX5_setMark 8 = .ok (.getfield 49, 3) := by decide +kernel
theorem dX5_setMark_11 : decode cX5_setMark 11 = .ok (.putfield 173, 3) := by decide +kernel
theorem dX5_setMark_14 : decode cX5_setMark 14 = .ok (.aload_n 0, 1) := by decide +kernel
theorem dX5_setMark_15 : decode cX5_setMark 15 = .ok (.iconst 0, 1) := by decide +kernel
theorem dX5_setMark_16 : decode cX5_setMark 16 = .ok (.putfield 32, 3) := by decide +kernel
theorem dX5_setMark_19 : decode cX5_setMark 19 = .ok (.aload_n 0, 1) := by decide +kernel
theorem dX5_setMark_20 : decode cX5_setMark 20 = .ok (.getfield 12, 3) := by decide +kernel
theorem dX5_setMark_23 : decode cX5_setMark 23 = .ok (.getfield 173, 3) := by decide +kernel
theorem dX5_setMark_26 : decode cX5_setMark 26 = .ok (.ireturn, 1) := by decide +kernel
theorem dX5_exchangeBoth_0 : decode cX5_exchangeBoth 0 = .ok (.aload_n 0, 1) := by decide +kernel
theorem dX5_exchangeBoth_1 : decode cX5_exchangeBoth 1 = .ok (.getfield 12, 3) := by decide +kernel
theorem dX5_exchangeBoth_4 : decode cX5_exchangeBoth 4 = .ok (.getfield 173, 3) := by decide +kernel
theorem dX5_exchangeBoth_7 : decode cX5_exchangeBoth 7 = .ok (.iconst (-1), 1) := by decide +kernel
theorem dX5_exchangeBoth_8 : decode cX5_exchangeBoth 8 = .ok (.if_icmp .ne 5, 3) := by decide +kernel
theorem dX5_exchangeBoth_11 : decode cX5_exchangeBoth 11 = .ok (.iconst (-1), 1) := by decide +kernel
theorem dX5_exchangeBoth_12 : decode cX5_exchangeBoth 12 = .ok (.ireturn, 1) := by decide +kernel
theorem dX5_exchangeBoth_13 : decode cX5_exchangeBoth 13 = .ok (.aload_n 0, 1) := by decide +kernel
theorem dX5_exchangeBoth_14 : decode cX5_exchangeBoth 14 = .ok (.getfield 12, 3) := by decide +kernel
theorem dX5_exchangeBoth_17 : decode cX5_exchangeBoth 17 = .ok (.getfield 173, 3) := by decide +kernel
theorem dX5_exchangeBoth_20 : decode cX5_exchangeBoth 20 = .ok (.istore_n 1, 1) := by decide +kernel
theorem dX5_exchangeBoth_21 : decode cX5_exchangeBoth 21 = .ok (.aload_n 0, 1) := by decide +kernel
theorem dX5_exchangeBoth_22 : decode cX5_exchangeBoth 22 = .ok (.getfield 12, 3) := by decide +kernel
theorem dX5_exchangeBoth_25 : decode cX5_exchangeBoth 25 = .ok (.aload_n 0, 1) := by decide +kernel
theorem dX5_exchangeBoth_26 : decode cX5_exchangeBoth 26 = .ok (.getfield 12, 3) := by decide +kernel
theorem dX5_exchangeBoth_29 : decode cX5_exchangeBoth 29 = .ok (.getfield 49, 3) := by decide +kernel
theorem dX5_exchangeBoth_32 : decode cX5_exchangeBoth 32 = .ok (.putfield 173, 3) := by decide +kernel
theorem dX5_exchangeBoth_35 : decode cX5_exchangeBoth 35 = .ok (.aload_n 0, 1) := by decide +kernel
theorem dX5_exchangeBoth_36 : decode cX5_exchangeBoth 36 = .ok (.getfield 12, 3) := by decide +kernel
theorem dX5_exchangeBoth_39 : decode cX5_exchangeBoth 39 = .ok (.iload_n 1, 1) := by decide +kernel
theorem dX5_exchangeBoth_40 : decode cX5_exchangeBoth 40 = .ok (.putfield 49, 3) := by decide +kernel
theorem dX5_exchangeBoth_43 : decode cX5_exchangeBoth 43 = .ok (.aload_n 0, 1) := by decide +kernel
theorem dX5_exchangeBoth_44 : decode cX5_exchangeBoth 44 = .ok (.iconst 0, 1) := by decide +kernel
theorem dX5_exchangeBoth_45 : decode cX5_exchangeBoth 45 = .ok (.putfield 32, 3) := by decide +kernel
theorem dX5_exchangeBoth_48 : decode cX5_exchangeBoth 48 = .ok (.iload_n 1, 1) := by decide +kernel
theorem dX5_exchangeBoth_49 : decode cX5_exchangeBoth 49 = .ok (.ireturn, 1) := by decide +kernel
theorem dX5_killWordOn_0 : decode cX5_killWordOn 0 = .ok (.aload_n 0, 1) := by decide +kernel
theorem dX5_killWordOn_1 : decode cX5_killWordOn 1 = .ok (.aload_n 0, 1) := by decide +kernel
theorem dX5_killWordOn_2 : decode cX5_killWordOn 2 = .ok (.getfield 12, 3) := by decide +kernel
theorem dX5_killWordOn_5 : decode cX5_killWordOn 5 = .ok (.getfield 49, 3) := by decide +kernel
theorem dX5_killWordOn_8 : decode cX5_killWordOn 8 = .ok (.aload_n 0, 1) := by decide +kernel
theorem dX5_killWordOn_9 : decode cX5_killWordOn 9 = .ok (.getfield 12, 3) := by decide +kernel
theorem dX5_killWordOn_12 : decode cX5_killWordOn 12 = .ok (.aload_n 0, 1) := by decide +kernel
theorem dX5_killWordOn_13 : decode cX5_killWordOn 13 = .ok (.getfield 12, 3) := by decide +kernel
theorem dX5_killWordOn_16 : decode cX5_killWordOn 16 = .ok (.getfield 49, 3) := by decide +kernel
theorem dX5_killWordOn_19 : decode cX5_killWordOn 19 = .ok (.invokevirtual 142, 3) := by decide +kernel
theorem dX5_killWordOn_22 : decode cX5_killWordOn 22 = .ok (.iconst 0, 1) := by decide +kernel
theorem dX5_killWordOn_23 : decode cX5_killWordOn 23 = .ok (.invokevirtual 180, 3) := by decide +kernel
theorem dX5_killWordOn_26 : decode cX5_killWordOn 26 = .ok (.ireturn, 1) := by decide +kernel
theorem dX5_killWordBack_0 : decode cX5_killWordBack 0 = .ok (.aload_n 0, 1) := by decide +kernel
theorem dX5_killWordBack_1 : decode cX5_killWordBack 1 = .ok (.aload_n 0, 1) := by decide +kernel
theorem dX5_killWordBack_2 : decode cX5_killWordBack 2 = .ok (.getfield 12, 3) := by decide +kernel
theorem dX5_killWordBack_5 : decode cX5_killWordBack 5 = .ok (.aload_n 0, 1) := by decide +kernel
theorem dX5_killWordBack_6 : decode cX5_killWordBack 6 = .ok (.getfield 12, 3) := by decide +kernel
theorem dX5_killWordBack_9 : decode cX5_killWordBack 9 = .ok (.getfield 49, 3) := by decide +kernel
theorem dX5_killWordBack_12 : decode cX5_killWordBack 12 = .ok (.invokevirtual 157, 3) := by decide +kernel
theorem dX5_killWordBack_15 : decode cX5_killWordBack 15 = .ok (.aload_n 0, 1) := by decide +kernel
theorem dX5_killWordBack_16 : decode cX5_killWordBack 16 = .ok (.getfield 12, 3) := by decide +kernel
theorem dX5_killWordBack_19 : decode cX5_killWordBack 19 = .ok (.getfield 49, 3) := by decide +kernel
theorem dX5_killWordBack_22 : decode cX5_killWordBack 22 = .ok (.iconst 1, 1) := by decide +kernel
theorem dX5_killWordBack_23 : decode cX5_killWordBack 23 = .ok (.invokevirtual 180, 3) := by decide +kernel
theorem dX5_killWordBack_26 : decode cX5_killWordBack 26 = .ok (.ireturn, 1) := by decide +kernel
theorem dX5_killLineOn_0 : decode cX5_killLineOn 0 = .ok (.aload_n 0, 1) := by decide +kernel
theorem dX5_killLineOn_1 : decode cX5_killLineOn 1 = .ok (.getfield 12, 3) := by decide +kernel
theorem dX5_killLineOn_4 : decode cX5_killLineOn 4 = .ok (.aload_n 0, 1) := by decide +kernel
theorem dX5_killLineOn_5 : decode cX5_killLineOn 5 = .ok (.getfield 12, 3) := by decide +kernel
theorem dX5_killLineOn_8 : decode cX5_killLineOn 8 = .ok (.getfield 49, 3) := by decide +kernel
theorem dX5_killLineOn_11 : decode cX5_killLineOn 11 = .ok (.invokevirtual 163, 3) := by decide +kernel
theorem dX5_killLineOn_14 : decode cX5_killLineOn 14 = .ok (.istore_n 1, 1) := by decide +kernel
theorem dX5_killLineOn_15 : decode cX5_killLineOn 15 = .ok (.iload_n 1, 1) := by decide +kernel
theorem dX5_killLineOn_16 : decode cX5_killLineOn 16 = .ok (.aload_n 0, 1) := by decide +kernel
theorem dX5_killLineOn_17 : decode cX5_killLineOn 17 = .ok (.getfield 12, 3) := by decide +kernel
theorem dX5_killLineOn_20 : decode cX5_killLineOn 20 = .ok (.getfield 49, 3) := by decide +kernel
theorem dX5_killLineOn_23 : decode cX5_killLineOn 23 = .ok (.if_icmp .ne 18, 3) := by decide +kernel
theorem dX5_killLineOn_26 : decode cX5_killLineOn 26 = .ok (.aload_n 0, 1) := by decide +kernel
theorem dX5_killLineOn_27 : decode cX5_killLineOn 27 = .ok (.getfield 12, 3) := by decide +kernel
theorem dX5_killLineOn_30 : decode cX5_killLineOn 30 = .ok (.iload_n 1, 1) := by decide +kernel
theorem dX5_killLineOn_31 : decode cX5_killLineOn 31 = .ok (.invokevirtual 184, 3) := by decide +kernel
theorem dX5_killLineOn_34 : decode cX5_killLineOn 34 = .ok (.ifCond .eq 7, 3) := by decide +kernel
theorem dX5_killLineOn_37 : decode cX5_killLineOn 37 = .ok (.iconst 1, 1) := by decide +kernel
theorem dX5_killLineOn_38 : decode cX5_killLineOn 38 = .ok (.goto 4, 3) := by decide +kernel
theorem dX5_killLineOn_41 : decode cX5_killLineOn 41 = .ok (.iconst 0, 1) := by decide +kernel
theorem dX5_killLineOn_42 : decode cX5_killLineOn 42 = .ok (.istore_n 2, 1) := by decide +kernel
theorem dX5_killLineOn_43 : decode cX5_killLineOn 43 = .ok (.aload_n 0, 1) := by decide +kernel
theorem dX5_killLineOn_44 : decode cX5_killLineOn 44 = .ok (.aload_n 0, 1) := by decide +kernel
theorem dX5_killLineOn_45 : decode cX5_killLineOn 45 = .ok (.getfield 12, 3) := by decide +kernel
theorem dX5_killLineOn_48 : decode cX5_killLineOn 48 = .ok (.getfield 49, 3) := by decide +kernel
theorem dX5_killLineOn_51 : decode cX5_killLineOn 51 = .ok (.iload_n 2, 1) := by decide +kernel
theorem dX5_killLineOn_52 : decode cX5_killLineOn 52 = .ok (.ifCond .eq 9, 3) := by decide +kernel
theorem dX5_killLineOn_55 : decode cX5_killLineOn 55 = .ok (.iload_n 1, 1) := by decide +kernel
theorem dX5_killLineOn_56 : decode cX5_killLineOn 56 = .ok (.iconst 1, 1) := by decide +kernel
theorem dX5_killLineOn_57 : decode cX5_killLineOn 57 = .ok (.iadd, 1) := by decide +kernel
theorem dX5_killLineOn_58 : decode cX5_killLineOn 58 = .ok (.goto 4, 3) := by decide +kernel
theorem dX5_killLineOn_61 : decode cX5_killLineOn 61 = .ok (.iload_n 1, 1) := by decide +kernel
theorem dX5_killLineOn_62 : decode cX5_killLineOn 62 = .ok (.iconst 0, 1) := by decide +kernel
theorem dX5_killLineOn_63 : decode cX5_killLineOn 63 = .ok (.invokevirtual 180, 3) := by decide +kernel
theorem dX5_killLineOn_66 : decode cX5_killLineOn 66 = .ok (.ireturn, 1) := by decide +kernel
theorem dX5_killToMark_0 : decode cX5_killToMark 0 = .ok (.aload_n 0, 1) := by decide +kernel
theorem dX5_killToMark_1 : decode cX5_killToMark 1 = .ok (.getfield 12, 3) := by decide +kernel
theorem dX5_killToMark_4 : decode cX5_killToMark 4 = .ok (.getfield 173, 3) := by decide +kernel
theorem dX5_killToMark_7 : decode cX5_killToMark 7 = .ok (.iconst (-1), 1) := by decide +kernel
theorem dX5_killToMark_8 : decode cX5_killToMark 8 = .ok (.if_icmp .ne 5, 3) := by decide +kernel
theorem dX5_killToMark_11 : decode cX5_killToMark 11 = .ok (.iconst (-1), 1) := by decide +kernel
theorem dX5_killToMark_12 : decode cX5_killToMark 12 = .ok (.ireturn, 1) := by decide +kernel
theorem dX5_killToMark_13 : decode cX5_killToMark 13 = .ok (.aload_n 0, 1) := by decide +kernel
theorem dX5_killToMark_14 : decode cX5_killToMark 14 = .ok (.getfield 12, 3) := by decide +kernel
theorem dX5_killToMark_17 : decode cX5_killToMark 17 = .ok (.getfield 173, 3) := by decide +kernel
theorem dX5_killToMark_20 : decode cX5_killToMark 20 = .ok (.aload_n 0, 1) := by decide +kernel
theorem dX5_killToMark_21 : decode cX5_killToMark 21 = .ok (.getfield 12, 3) := by decide +kernel
theorem dX5_killToMark_24 : decode cX5_killToMark 24 = .ok (.getfield 49, 3) := by decide +kernel
theorem dX5_killToMark_27 : decode cX5_killToMark 27 = .ok (.invokestatic 170, 3) := by decide +kernel
theorem dX5_killToMark_30 : decode cX5_killToMark 30 = .ok (.istore_n 1, 1) := by decide +kernel
theorem dX5_killToMark_31 : decode cX5_killToMark 31 = .ok (.aload_n 0, 1) := by decide +kernel
theorem dX5_killToMark_32 : decode cX5_killToMark 32 = .ok (.getfield 12, 3) := by decide +kernel
theorem dX5_killToMark_35 : decode cX5_killToMark 35 = .ok (.getfield 173, 3) := by decide +kernel
theorem dX5_killToMark_38 : decode cX5_killToMark 38 = .ok (.aload_n 0, 1) := by decide +kernel
theorem dX5_killToMark_39 : decode cX5_killToMark 39 = .ok (.getfield 12, 3) := by decide +kernel
theorem dX5_killToMark_42 : decode cX5_killToMark 42 = .ok (.getfield 49, 3) := by decide +kernel
theorem dX5_killToMark_45 : decode cX5_killToMark 45 = .ok (.invokestatic 187, 3) := by decide +kernel
theorem dX5_killToMark_48 : decode cX5_killToMark 48 = .ok (.istore_n 2, 1) := by decide +kernel
theorem dX5_killToMark_49 : decode cX5_killToMark 49 = .ok (.aload_n 0, 1) := by decide +kernel
theorem dX5_killToMark_50 : decode cX5_killToMark 50 = .ok (.iload_n 1, 1) := by decide +kernel
theorem dX5_killToMark_51 : decode cX5_killToMark 51 = .ok (.iload_n 2, 1) := by decide +kernel
theorem dX5_killToMark_52 : decode cX5_killToMark 52 = .ok (.aload_n 0, 1) := by decide +kernel
theorem dX5_killToMark_53 : decode cX5_killToMark 53 = .ok (.getfield 12, 3) := by decide +kernel
theorem dX5_killToMark_56 : decode cX5_killToMark 56 = .ok (.getfield 173, 3) := by decide +kernel
theorem dX5_killToMark_59 : decode cX5_killToMark 59 = .ok (.aload_n 0, 1) := by decide +kernel
theorem dX5_killToMark_60 : decode cX5_killToMark 60 = .ok (.getfield 12, 3) := by decide +kernel
theorem dX5_killToMark_63 : decode cX5_killToMark 63 = .ok (.getfield 49, 3) := by decide +kernel
theorem dX5_killToMark_66 : decode cX5_killToMark 66 = .ok (.if_icmp .ge 7, 3) := by decide +kernel
theorem dX5_killToMark_69 : decode cX5_killToMark 69 = .ok (.iconst 1, 1) := by decide +kernel
theorem dX5_killToMark_70 : decode cX5_killToMark 70 = .ok (.goto 4, 3) := by decide +kernel
theorem dX5_killToMark_73 : decode cX5_killToMark 73 = .ok (.iconst 0, 1) := by decide +kernel
theorem dX5_killToMark_74 : decode cX5_killToMark 74 = .ok (.invokevirtual 180, 3) := by decide +kernel
theorem dX5_killToMark_77 : decode cX5_killToMark 77 = .ok (.ireturn, 1) := by decide +kernel
theorem dX5_kill_0 : decode cX5_kill 0 = .ok (.iload_n 1, 1) := by decide +kernel
theorem dX5_kill_1 : decode cX5_kill 1 = .ok (.iload_n 2, 1) := by decide +kernel
theorem dX5_kill_2 : decode cX5_kill 2 = .ok (.if_icmp .lt 5, 3) := by decide +kernel
theorem dX5_kill_5 : decode cX5_kill 5 = .ok (.iconst (-1), 1) := by decide +kernel
theorem dX5_kill_6 : decode cX5_kill 6 = .ok (.ireturn, 1) := by decide +kernel
theorem dX5_kill_7 : decode cX5_kill 7 = .ok (.aload_n 0, 1) := by decide +kernel
theorem dX5_kill_8 : decode cX5_kill 8 = .ok (.getfield 32, 3) := by decide +kernel
theorem dX5_kill_11 : decode cX5_kill 11 = .ok (.iconst 1, 1) := by decide +kernel
theorem dX5_kill_12 : decode cX5_kill 12 = .ok (.if_icmp .ne 23, 3) := by decide +kernel
theorem dX5_kill_15 : decode cX5_kill 15 = .ok (.aload_n 0, 1) := by decide +kernel
theorem dX5_kill_16 : decode cX5_kill 16 = .ok (.getfield 21, 3) := by decide +kernel
theorem dX5_kill_19 : decode cX5_kill 19 = .ok (.aload_n 0, 1) := by decide +kernel
theorem dX5_kill_20 : decode cX5_kill 20 = .ok (.getfield 12, 3) := by decide +kernel
theorem dX5_kill_23 : decode cX5_kill 23 = .ok (.getfield 111, 3) := by decide +kernel
theorem dX5_kill_26 : decode cX5_kill 26 = .ok (.iload_n 1, 1) := by decide +kernel
theorem dX5_kill_27 : decode cX5_kill 27 = .ok (.iload_n 2, 1) := by decide +kernel
theorem dX5_kill_28 : decode cX5_kill 28 = .ok (.iload_n 3, 1) := by decide +kernel
theorem dX5_kill_29 : decode cX5_kill 29 = .ok (.invokevirtual 190, 3) := by decide +kernel
theorem dX5_kill_32 : decode cX5_kill 32 = .ok (.goto 31, 3) := by decide +kernel
theorem dX5_kill_35 : decode cX5_kill 35 = .ok (.aload_n 0, 1) := by decide +kernel
theorem dX5_kill_36 : decode cX5_kill 36 = .ok (.getfield 28, 3) := by decide +kernel
theorem dX5_kill_39 : decode cX5_kill 39 = .ok (.dup, 1) := by decide +kernel
theorem dX5_kill_40 : decode cX5_kill 40 = .ok (.getfield 194, 3) := by decide +kernel
theorem dX5_kill_43 : decode cX5_kill 43 = .ok (.aload_n 0, 1) := by decide +kernel
theorem dX5_kill_44 : decode cX5_kill 44 = .ok (.getfield 21, 3) := by decide +kernel
theorem dX5_kill_47 : decode cX5_kill 47 = .ok (.aload_n 0, 1) := by decide +kernel
theorem dX5_kill_48 : decode cX5_kill 48 = .ok (.getfield 12, 3) := by decide +kernel
theorem dX5_kill_51 : decode cX5_kill 51 = .ok (.getfield 111, 3) := by decide +kernel
theorem dX5_kill_54 : decode cX5_kill 54 = .ok (.iload_n 1, 1) := by decide +kernel
theorem dX5_kill_55 : decode cX5_kill 55 = .ok (.iload_n 2, 1) := by decide +kernel
theorem dX5_kill_56 : decode cX5_kill 56 = .ok (.invokevirtual 197, 3) := by decide +kernel
theorem dX5_kill_59 : decode cX5_kill 59 = .ok (.iadd, 1) := by decide +kernel
theorem dX5_kill_60 : decode cX5_kill 60 = .ok (.putfield 194, 3) := by decide +kernel
theorem dX5_kill_63 : decode cX5_kill 63 = .ok (.aload_n 0, 1) := by decide +kernel
theorem dX5_kill_64 : decode cX5_kill 64 = .ok (.getfield 12, 3) := by decide +kernel
theorem dX5_kill_67 : decode cX5_kill 67 = .ok (.iload_n 1, 1) := by decide +kernel
theorem dX5_kill_68 : decode cX5_kill 68 = .ok (.iload_n 2, 1) := by decide +kernel
theorem dX5_kill_69 : decode cX5_kill 69 = .ok (.invokevirtual 132, 3) := by decide +kernel
theorem dX5_kill_72 : decode cX5_kill 72 = .ok (.aload_n 0, 1) := by decide +kernel
theorem dX5_kill_73 : decode cX5_kill 73 = .ok (.getfield 28, 3) := by decide +kernel
theorem dX5_kill_76 : decode cX5_kill 76 = .ok (.dup, 1) := by decide +kernel
theorem dX5_kill_77 : decode cX5_kill 77 = .ok (.getfield 201, 3) := by decide +kernel
theorem dX5_kill_80 : decode cX5_kill 80 = .ok (.iload_n 2, 1) := by decide +kernel
theorem dX5_kill_81 : decode cX5_kill 81 = .ok (.iload_n 1, 1) := by decide +kernel
theorem dX5_kill_82 : decode cX5_kill 82 = .ok (.isub, 1) := by decide +kernel
theorem dX5_kill_83 : decode cX5_kill 83 = .ok (.iadd, 1) := by decide +kernel
theorem dX5_kill_84 : decode cX5_kill 84 = .ok (.putfield 201, 3) := by decide +kernel
theorem dX5_kill_87 : decode cX5_kill 87 = .ok (.aload_n 0, 1) := by decide +kernel
theorem dX5_kill_88 : decode cX5_kill 88 = .ok (.iconst 1, 1) := by decide +kernel
theorem dX5_kill_89 : decode cX5_kill 89 = .ok (.putfield 32, 3) := by decide +kernel
theorem dX5_kill_92 : decode cX5_kill 92 = .ok (.iload_n 2, 1) := by decide +kernel
theorem dX5_kill_93 : decode cX5_kill 93 = .ok (.iload_n 1, 1) := by decide +kernel
theorem dX5_kill_94 : decode cX5_kill 94 = .ok (.isub, 1) := by decide +kernel
theorem dX5_kill_95 : decode cX5_kill 95 = .ok (.ireturn, 1) := by decide +kernel
theorem dX5_copyToMark_0 : decode cX5_copyToMark 0 = .ok (.aload_n 0, 1) := by decide +kernel
theorem dX5_copyToMark_1 : decode cX5_copyToMark 1 = .ok (.getfield 12, 3) := by decide +kernel
theorem dX5_copyToMark_4 : decode cX5_copyToMark 4 = .ok (.invokevirtual 204, 3) := by decide +kernel
theorem dX5_copyToMark_7 : decode cX5_copyToMark 7 = .ok (.istore_n 1, 1) := by decide +kernel
theorem dX5_copyToMark_8 : decode cX5_copyToMark 8 = .ok (.iload_n 1, 1) := by decide +kernel
theorem dX5_copyToMark_9 : decode cX5_copyToMark 9 = .ok (.iconst 1, 1) := by decide +kernel
theorem dX5_copyToMark_10 : decode cX5_copyToMark 10 = .ok (.if_icmp .ge 5, 3) := by decide +kernel
theorem dX5_copyToMark_13 : decode cX5_copyToMark 13 = .ok (.iconst (-1), 1) := by decide +kernel
theorem dX5_copyToMark_14 : decode cX5_copyToMark 14 = .ok (.ireturn, 1) := by decide +kernel
theorem dX5_copyToMark_15 : decode cX5_copyToMark 15 = .ok (.aload_n 0, 1) := by decide +kernel
theorem dX5_copyToMark_16 : decode cX5_copyToMark 16 = .ok (.getfield 12, 3) := by decide +kernel
theorem dX5_copyToMark_19 : decode cX5_copyToMark 19 = .ok (.getfield 173, 3) := by decide +kernel
theorem dX5_copyToMark_22 : decode cX5_copyToMark 22 = .ok (.aload_n 0, 1) := by decide +kernel
theorem dX5_copyToMark_23 : decode cX5_copyToMark 23 = .ok (.getfield 12, 3) := by decide +kernel
theorem dX5_copyToMark_26 : decode cX5_copyToMark 26 = .ok (.getfield 49, 3) := by decide +kernel
theorem dX5_copyToMark_29 : decode cX5_copyToMark 29 = .ok (.invokestatic 170, 3) := by decide +kernel
theorem dX5_copyToMark_32 : decode cX5_copyToMark 32 = .ok (.istore_n 2, 1) := by decide +kernel
theorem dX5_copyToMark_33 : decode cX5_copyToMark 33 = .ok (.aload_n 0, 1) := by decide +kernel
theorem dX5_copyToMark_34 : decode cX5_copyToMark 34 = .ok (.getfield 28, 3) := by decide +kernel
theorem dX5_copyToMark_37 : decode cX5_copyToMark 37 = .ok (.dup, 1) := by decide +kernel
theorem dX5_copyToMark_38 : decode cX5_copyToMark 38 = .ok (.getfield 194, 3) := by decide +kernel
theorem dX5_copyToMark_41 : decode cX5_copyToMark 41 = .ok (.aload_n 0, 1) := by decide +kernel
theorem dX5_copyToMark_42 : decode cX5_copyToMark 42 = .ok (.getfield 21, 3) := by decide +kernel
theorem dX5_copyToMark_45 : decode cX5_copyToMark 45 = .ok (.aload_n 0, 1) := by decide +kernel
theorem dX5_copyToMark_46 : decode cX5_copyToMark 46 = .ok (.getfield 12, 3) := by decide +kernel
theorem dX5_copyToMark_49 : decode cX5_copyToMark 49 = .ok (.getfield 111, 3) := by decide +kernel
theorem dX5_copyToMark_52 : decode cX5_copyToMark 52 = .ok (.iload_n 2, 1) := by decide +kernel
theorem dX5_copyToMark_53 : decode cX5_copyToMark 53 = .ok (.iload_n 2, 1) := by decide +kernel
theorem dX5_copyToMark_54 : decode cX5_copyToMark 54 = .ok (.iload_n 1, 1) := by decide +kernel
theorem dX5_copyToMark_55 : decode cX5_copyToMark 55 = .ok (.iadd, 1) := by decide +kernel
theorem dX5_copyToMark_56 : decode cX5_copyToMark 56 = .ok (.invokevirtual 197, 3) := by decide +kernel
theorem dX5_copyToMark_59 : decode cX5_copyToMark 59 = .ok (.iadd, 1) := by decide +kernel
theorem dX5_copyToMark_60 : decode cX5_copyToMark 60 = .ok (.putfield 194, 3) := by decide +kernel
theorem dX5_copyToMark_63 : decode cX5_copyToMark 63 = .ok (.aload_n 0, 1) := by decide +kernel
theorem dX5_copyToMark_64 : decode cX5_copyToMark 64 = .ok (.iconst 0, 1) := by decide +kernel
theorem dX5_copyToMark_65 : decode cX5_copyToMark 65 = .ok (.putfield 32, 3) := by decide +kernel
theorem dX5_copyToMark_68 : decode cX5_copyToMark 68 = .ok (.iload_n 1, 1) := by decide +kernel
theorem dX5_copyToMark_69 : decode cX5_copyToMark 69 = .ok (.ireturn, 1) := by decide +kernel
theorem dX5_yankNext_0 : decode cX5_yankNext 0 = .ok (.aload_n 0, 1) := by decide +kernel
theorem dX5_yankNext_1 : decode cX5_yankNext 1 = .ok (.getfield 21, 3) := by decide +kernel
theorem dX5_yankNext_4 : decode cX5_yankNext 4 = .ok (.aload_n 0, 1) := by decide +kernel
theorem dX5_yankNext_5 : decode cX5_yankNext 5 = .ok (.getfield 21, 3) := by decide +kernel
theorem dX5_yankNext_8 : decode cX5_yankNext 8 = .ok (.getfield 207, 3) := by decide +kernel
theorem dX5_yankNext_11 : decode cX5_yankNext 11 = .ok (.invokevirtual 210, 3) := by decide +kernel
theorem dX5_yankNext_14 : decode cX5_yankNext 14 = .ok (.astore_n 1, 1) := by decide +kernel
theorem dX5_yankNext_15 : decode cX5_yankNext 15 = .ok (.aload_n 0, 1) := by decide +kernel
theorem dX5_yankNext_16 : decode cX5_yankNext 16 = .ok (.getfield 21, 3) := by decide +kernel
theorem dX5_yankNext_19 : decode cX5_yankNext 19 = .ok (.getfield 214, 3) := by decide +kernel
theorem dX5_yankNext_22 : decode cX5_yankNext 22 = .ok (.iconst 1, 1) := by decide +kernel
theorem dX5_yankNext_23 : decode cX5_yankNext 23 = .ok (.if_icmp .lt 20, 3) := by decide +kernel
theorem dX5_yankNext_26 : decode cX5_yankNext 26 = .ok (.aload_n 1, 1) := by decide +kernel
theorem dX5_yankNext_27 : decode cX5_yankNext 27 = .ok (.invokevirtual 126, 3) := by decide +kernel
theorem dX5_yankNext_30 : decode cX5_yankNext 30 = .ok (.aload_n 0, 1) := by decide +kernel
theorem dX5_yankNext_31 : decode cX5_yankNext 31 = .ok (.getfield 12, 3) := by decide +kernel
theorem dX5_yankNext_34 : decode cX5_yankNext 34 = .ok (.getfield 111, 3) := by decide +kernel
theorem dX5_yankNext_37 : decode cX5_yankNext 37 = .ok (.invokevirtual 115, 3) := by decide +kernel
theorem dX5_yankNext_40 : decode cX5_yankNext 40 = .ok (.if_icmp .le 5, 3) := by decide +kernel
theorem dX5_yankNext_43 : decode cX5_yankNext 43 = .ok (.iconst (-1), 1) := by decide +kernel
theorem dX5_yankNext_44 : decode cX5_yankNext 44 = .ok (.ireturn, 1) := by decide +kernel
theorem dX5_yankNext_45 : decode cX5_yankNext 45 = .ok (.aload_n 0, 1) := by decide +kernel
theorem dX5_yankNext_46 : decode cX5_yankNext 46 = .ok (.aload_n 1, 1) := by decide +kernel
theorem dX5_yankNext_47 : decode cX5_yankNext 47 = .ok (.invokevirtual 216, 3) := by decide +kernel
theorem dX5_yankNext_50 : decode cX5_yankNext 50 = .ok (.ireturn, 1) := by decide +kernel
theorem dX5_writeHoard_0 : decode cX5_writeHoard 0 = .ok (.aload_n 0, 1) := by decide +kernel
theorem dX5_writeHoard_1 : decode cX5_writeHoard 1 = .ok (.getfield 12, 3) := by decide +kernel
theorem dX5_writeHoard_4 : decode cX5_writeHoard 4 = .ok (.aload_n 0, 1) := by decide +kernel
theorem dX5_writeHoard_5 : decode cX5_writeHoard 5 = .ok (.getfield 12, 3) := by decide +kernel
theorem dX5_writeHoard_8 : decode cX5_writeHoard 8 = .ok (.getfield 49, 3) := by decide +kernel
theorem dX5_writeHoard_11 : decode cX5_writeHoard 11 = .ok (.putfield 173, 3) := by decide +kernel
theorem dX5_writeHoard_14 : decode cX5_writeHoard 14 = .ok (.aload_n 0, 1) := by decide +kernel
theorem dX5_writeHoard_15 : decode cX5_writeHoard 15 = .ok (.getfield 12, 3) := by decide +kernel
theorem dX5_writeHoard_18 : decode cX5_writeHoard 18 = .ok (.aload_n 1, 1) := by decide +kernel
theorem dX5_writeHoard_19 : decode cX5_writeHoard 19 = .ok (.invokevirtual 219, 3) := by decide +kernel
theorem dX5_writeHoard_22 : decode cX5_writeHoard 22 = .ok (.aload_n 0, 1) := by decide +kernel
theorem dX5_writeHoard_23 : decode cX5_writeHoard 23 = .ok (.getfield 28, 3) := by decide +kernel
theorem dX5_writeHoard_26 : decode cX5_writeHoard 26 = .ok (.dup, 1) := by decide +kernel
theorem dX5_writeHoard_27 : decode cX5_writeHoard 27 = .ok (.getfield 223, 3) := by decide +kernel
theorem dX5_writeHoard_30 : decode cX5_writeHoard 30 = .ok (.aload_n 1, 1) := by decide +kernel
theorem dX5_writeHoard_31 : decode cX5_writeHoard 31 = .ok (.invokevirtual 126, 3) := by decide +kernel
theorem dX5_writeHoard_34 : decode cX5_writeHoard 34 = .ok (.iadd, 1) := by decide +kernel
theorem dX5_writeHoard_35 : decode cX5_writeHoard 35 = .ok (.putfield 223, 3) := by decide +kernel
theorem dX5_writeHoard_38 : decode cX5_writeHoard 38 = .ok (.aload_n 0, 1) := by decide +kernel
theorem dX5_writeHoard_39 : decode cX5_writeHoard 39 = .ok (.iconst 2, 1) := by decide +kernel
theorem dX5_writeHoard_40 : decode cX5_writeHoard 40 = .ok (.putfield 32, 3) := by decide +kernel
theorem dX5_writeHoard_43 : decode cX5_writeHoard 43 = .ok (.aload_n 1, 1) := by decide +kernel
theorem dX5_writeHoard_44 : decode cX5_writeHoard 44 = .ok (.invokevirtual 126, 3) := by decide +kernel
theorem dX5_writeHoard_47 : decode cX5_writeHoard 47 = .ok (.ireturn, 1) := by decide +kernel
theorem dX5_yankOlder_0 : decode cX5_yankOlder 0 = .ok (.aload_n 0, 1) := by decide +kernel
theorem dX5_yankOlder_1 : decode cX5_yankOlder 1 = .ok (.getfield 32, 3) := by decide +kernel
theorem dX5_yankOlder_4 : decode cX5_yankOlder 4 = .ok (.iconst 2, 1) := by decide +kernel
theorem dX5_yankOlder_5 : decode cX5_yankOlder 5 = .ok (.if_icmp .eq 5, 3) := by decide +kernel
theorem dX5_yankOlder_8 : decode cX5_yankOlder 8 = .ok (.iconst (-1), 1) := by decide +kernel
theorem dX5_yankOlder_9 : decode cX5_yankOlder 9 = .ok (.ireturn, 1) := by decide +kernel
theorem dX5_yankOlder_10 : decode cX5_yankOlder 10 = .ok (.aload_n 0, 1) := by decide +kernel
theorem dX5_yankOlder_11 : decode cX5_yankOlder 11 = .ok (.getfield 12, 3) := by decide +kernel
theorem dX5_yankOlder_14 : decode cX5_yankOlder 14 = .ok (.invokevirtual 204, 3) := by decide +kernel
theorem dX5_yankOlder_17 : decode cX5_yankOlder 17 = .ok (.istore_n 1, 1) := by decide +kernel
theorem dX5_yankOlder_18 : decode cX5_yankOlder 18 = .ok (.aload_n 0, 1) := by decide +kernel
theorem dX5_yankOlder_19 : decode cX5_yankOlder 19 = .ok (.getfield 21, 3) := by decide +kernel
theorem dX5_yankOlder_22 : decode cX5_yankOlder 22 = .ok (.iconst 1, 1) := by decide +kernel
theorem dX5_yankOlder_23 : decode cX5_yankOlder 23 = .ok (.invokevirtual 226, 3) := by decide +kernel
theorem dX5_yankOlder_26 : decode cX5_yankOlder 26 = .ok (.istore_n 2, 1) := by decide +kernel
theorem dX5_yankOlder_27 : decode cX5_yankOlder 27 = .ok (.aload_n 0, 1) := by decide +kernel
theorem dX5_yankOlder_28 : decode cX5_yankOlder 28 = .ok (.getfield 21, 3) := by decide +kernel
theorem dX5_yankOlder_31 : decode cX5_yankOlder 31 = .ok (.iload_n 2, 1) := by decide +kernel
theorem dX5_yankOlder_32 : decode cX5_yankOlder 32 = .ok (.invokevirtual 210, 3) := by decide +kernel
theorem dX5_yankOlder_35 : decode cX5_yankOlder 35 = .ok (.invokevirtual 126, 3) := by decide +kernel
theorem dX5_yankOlder_38 : decode cX5_yankOlder 38 = .ok (.aload_n 0, 1) := by decide +kernel
theorem dX5_yankOlder_39 : decode cX5_yankOlder 39 = .ok (.getfield 12, 3) := by decide +kernel
theorem dX5_yankOlder_42 : decode cX5_yankOlder 42 = .ok (.getfield 111, 3) := by decide +kernel
theorem dX5_yankOlder_45 : decode cX5_yankOlder 45 = .ok (.invokevirtual 115, 3) := by decide +kernel
theorem dX5_yankOlder_48 : decode cX5_yankOlder 48 = .ok (.iload_n 1, 1) := by decide +kernel
theorem dX5_yankOlder_49 : decode cX5_yankOlder 49 = .ok (.iadd, 1) := by decide +kernel
theorem dX5_yankOlder_50 : decode cX5_yankOlder 50 = .ok (.if_icmp .le 5, 3) := by decide +kernel
theorem dX5_yankOlder_53 : decode cX5_yankOlder 53 = .ok (.iconst (-1), 1) := by decide +kernel
theorem dX5_yankOlder_54 : decode cX5_yankOlder 54 = .ok (.ireturn, 1) := by decide +kernel
theorem dX5_yankOlder_55 : decode cX5_yankOlder 55 = .ok (.aload_n 0, 1) := by decide +kernel
theorem dX5_yankOlder_56 : decode cX5_yankOlder 56 = .ok (.getfield 12, 3) := by decide +kernel
theorem dX5_yankOlder_59 : decode cX5_yankOlder 59 = .ok (.aload_n 0, 1) := by decide +kernel
theorem dX5_yankOlder_60 : decode cX5_yankOlder 60 = .ok (.getfield 12, 3) := by decide +kernel
theorem dX5_yankOlder_63 : decode cX5_yankOlder 63 = .ok (.getfield 173, 3) := by decide +kernel
theorem dX5_yankOlder_66 : decode cX5_yankOlder 66 = .ok (.aload_n 0, 1) := by decide +kernel
theorem dX5_yankOlder_67 : decode cX5_yankOlder 67 = .ok (.getfield 12, 3) := by decide +kernel
theorem dX5_yankOlder_70 : decode cX5_yankOlder 70 = .ok (.getfield 49, 3) := by decide +kernel
theorem dX5_yankOlder_73 : decode cX5_yankOlder 73 = .ok (.invokevirtual 132, 3) := by decide +kernel
theorem dX5_yankOlder_76 : decode cX5_yankOlder 76 = .ok (.aload_n 0, 1) := by decide +kernel
theorem dX5_yankOlder_77 : decode cX5_yankOlder 77 = .ok (.getfield 28, 3) := by decide +kernel
theorem dX5_yankOlder_80 : decode cX5_yankOlder 80 = .ok (.dup, 1) := by decide +kernel
theorem dX5_yankOlder_81 : decode cX5_yankOlder 81 = .ok (.getfield 229, 3) := by decide +kernel
theorem dX5_yankOlder_84 : decode cX5_yankOlder 84 = .ok (.iload_n 1, 1) := by decide +kernel
theorem dX5_yankOlder_85 : decode cX5_yankOlder 85 = .ok (.iadd, 1) := by decide +kernel
theorem dX5_yankOlder_86 : decode cX5_yankOlder 86 = .ok (.putfield 229, 3) := by decide +kernel
theorem dX5_yankOlder_89 : decode cX5_yankOlder 89 = .ok (.aload_n 0, 1) := by decide +kernel
theorem dX5_yankOlder_90 : decode cX5_yankOlder 90 = .ok (.getfield 21, 3) := by decide +kernel
theorem dX5_yankOlder_93 : decode cX5_yankOlder 93 = .ok (.iload_n 2, 1) := by decide +kernel
theorem dX5_yankOlder_94 : decode cX5_yankOlder 94 = .ok (.putfield 207, 3) := by decide +kernel
theorem dX5_yankOlder_97 : decode cX5_yankOlder 97 = .ok (.aload_n 0, 1) := by decide +kernel
theorem dX5_yankOlder_98 : decode cX5_yankOlder 98 = .ok (.aload_n 0, 1) := by decide +kernel
theorem dX5_yankOlder_99 : decode cX5_yankOlder 99 = .ok (.getfield 21, 3) := by decide +kernel
theorem dX5_yankOlder_102 : decode cX5_yankOlder 102 = .ok (.iload_n 2, 1) := by decide +kernel
theorem dX5_yankOlder_103 : decode cX5_yankOlder 103 = .ok (.invokevirtual 210, 3) := by decide +kernel
theorem dX5_yankOlder_106 : decode cX5_yankOlder 106 = .ok (.invokevirtual 216, 3) := by decide +kernel
theorem dX5_yankOlder_109 : decode cX5_yankOlder 109 = .ok (.ireturn, 1) := by decide +kernel
theorem dX5_turnRing_0 : decode cX5_turnRing 0 = .ok (.aload_n 0, 1) := by decide +kernel
theorem dX5_turnRing_1 : decode cX5_turnRing 1 = .ok (.getfield 21, 3) := by decide +kernel
theorem dX5_turnRing_4 : decode cX5_turnRing 4 = .ok (.iload_n 1, 1) := by decide +kernel
theorem dX5_turnRing_5 : decode cX5_turnRing 5 = .ok (.invokevirtual 226, 3) := by decide +kernel
theorem dX5_turnRing_8 : decode cX5_turnRing 8 = .ok (.istore_n 2, 1) := by decide +kernel
theorem dX5_turnRing_9 : decode cX5_turnRing 9 = .ok (.iload_n 2, 1) := by decide +kernel
theorem dX5_turnRing_10 : decode cX5_turnRing 10 = .ok (.iconst (-1), 1) := by decide +kernel
theorem dX5_turnRing_11 : decode cX5_turnRing 11 = .ok (.if_icmp .ne 5, 3) := by decide +kernel
theorem dX5_turnRing_14 : decode cX5_turnRing 14 = .ok (.iconst (-1), 1) := by decide +kernel
theorem dX5_turnRing_15 : decode cX5_turnRing 15 = .ok (.ireturn, 1) := by decide +kernel
theorem dX5_turnRing_16 : decode cX5_turnRing 16 = .ok (.aload_n 0, 1) := by decide +kernel
theorem dX5_turnRing_17 : decode cX5_turnRing 17 = .ok (.getfield 21, 3) := by decide +kernel
theorem dX5_turnRing_20 : decode cX5_turnRing 20 = .ok (.iload_n 2, 1) := by decide +kernel
theorem dX5_turnRing_21 : decode cX5_turnRing 21 = .ok (.putfield 207, 3) := by decide +kernel
theorem dX5_turnRing_24 : decode cX5_turnRing 24 = .ok (.aload_n 0, 1) := by decide +kernel
theorem dX5_turnRing_25 : decode cX5_turnRing 25 = .ok (.iconst 0, 1) := by decide +kernel
theorem dX5_turnRing_26 : decode cX5_turnRing 26 = .ok (.putfield 32, 3) := by decide +kernel
theorem dX5_turnRing_29 : decode cX5_turnRing 29 = .ok (.iload_n 2, 1) := by decide +kernel
theorem dX5_turnRing_30 : decode cX5_turnRing 30 = .ok (.ireturn, 1) := by decide +kernel
theorem dX5_setCaves_0 : decode cX5_setCaves 0 = .ok (.aload_n 0, 1) := by decide +kernel
theorem dX5_setCaves_1 : decode cX5_setCaves 1 = .ok (.getfield 21, 3) := by decide +kernel
theorem dX5_setCaves_4 : decode cX5_setCaves 4 = .ok (.getfield 232, 3) := by decide +kernel
theorem dX5_setCaves_7 : decode cX5_setCaves 7 = .ok (.istore_n 2, 1) := by decide +kernel
theorem dX5_setCaves_8 : decode cX5_setCaves 8 = .ok (.aload_n 0, 1) := by decide +kernel
theorem dX5_setCaves_9 : decode cX5_setCaves 9 = .ok (.getfield 28, 3) := by decide +kernel
theorem dX5_setCaves_12 : decode cX5_setCaves 12 = .ok (.dup, 1) := by decide +kernel
theorem dX5_setCaves_13 : decode cX5_setCaves 13 = .ok (.getfield 194, 3) := by decide +kernel
theorem dX5_setCaves_16 : decode cX5_setCaves 16 = .ok (.aload_n 0, 1) := by decide +kernel
theorem dX5_setCaves_17 : decode cX5_setCaves 17 = .ok (.getfield 21, 3) := by decide +kernel
theorem dX5_setCaves_20 : decode cX5_setCaves 20 = .ok (.iload_n 1, 1) := by decide +kernel
theorem dX5_setCaves_21 : decode cX5_setCaves 21 = .ok (.invokevirtual 235, 3) := by decide +kernel
theorem dX5_setCaves_24 : decode cX5_setCaves 24 = .ok (.iadd, 1) := by decide +kernel
theorem dX5_setCaves_25 : decode cX5_setCaves 25 = .ok (.putfield 194, 3) := by decide +kernel
theorem dX5_setCaves_28 : decode cX5_setCaves 28 = .ok (.aload_n 0, 1) := by decide +kernel
theorem dX5_setCaves_29 : decode cX5_setCaves 29 = .ok (.iconst 0, 1) := by decide +kernel
theorem dX5_setCaves_30 : decode cX5_setCaves 30 = .ok (.putfield 32, 3) := by decide +kernel
theorem dX5_setCaves_33 : decode cX5_setCaves 33 = .ok (.iload_n 2, 1) := by decide +kernel
theorem dX5_setCaves_34 : decode cX5_setCaves 34 = .ok (.ireturn, 1) := by decide +kernel
theorem dX6_init_0 : decode cX6_init 0 = .ok (.aload_n 0, 1) := by decide +kernel
theorem dX6_init_1 : decode cX6_init 1 = .ok (.invokespecial 3, 3) := by decide +kernel
theorem dX6_init_4 : decode cX6_init 4 = .ok (.aload_n 0, 1) := by decide +kernel
theorem dX6_init_5 : decode cX6_init 5 = .ok (.iload_n 1, 1) := by decide +kernel
theorem dX6_init_6 : decode cX6_init 6 = .ok (.ifCond .ge 7, 3) := by decide +kernel
theorem dX6_init_9 : decode cX6_init 9 = .ok (.iconst 0, 1) := by decide +kernel
theorem dX6_init_10 : decode cX6_init 10 = .ok (.goto 4, 3) := by decide +kernel
theorem dX6_init_13 : decode cX6_init 13 = .ok (.iload_n 1, 1) := by decide +kernel
theorem dX6_init_14 : decode cX6_init 14 = .ok (.newarray .int, 2) := by decide +kernel
theorem dX6_init_16 : decode cX6_init 16 = .ok (.putfield 9, 3) := by decide +kernel
theorem dX6_init_19 : decode cX6_init 19 = .ok (.return_, 1) := by decide +kernel
theorem dX6_count_0 : decode cX6_count 0 = .ok (.aload_n 0, 1) := by decide +kernel
theorem dX6_count_1 : decode cX6_count 1 = .ok (.getfield 15, 3) := by decide +kernel
theorem dX6_count_4 : decode cX6_count 4 = .ok (.ireturn, 1) := by decide +kernel
theorem dX6_room_0 : decode cX6_room 0 = .ok (.aload_n 0, 1) := by decide +kernel
theorem dX6_room_1 : decode cX6_room 1 = .ok (.getfield 9, 3) := by decide +kernel
theorem dX6_room_4 : decode cX6_room 4 = .ok (.arraylength, 1) := by decide +kernel
theorem dX6_room_5 : decode cX6_room 5 = .ok (.aload_n 0, 1) := by decide +kernel
theorem dX6_room_6 : decode cX6_room 6 = .ok (.getfield 15, 3) := by decide +kernel
theorem dX6_room_9 : decode cX6_room 9 = .ok (.isub, 1) := by decide +kernel
theorem dX6_room_10 : decode cX6_room 10 = .ok (.ireturn, 1) := by decide +kernel
theorem dX6_code_0 : decode cX6_code 0 = .ok (.iload_n 1, 1) := by decide +kernel
theorem dX6_code_1 : decode cX6_code 1 = .ok (.ifCond .lt 29, 3) := by decide +kernel
theorem dX6_code_4 : decode cX6_code 4 = .ok (.iload_n 1, 1) := by decide +kernel
theorem dX6_code_5 : decode cX6_code 5 = .ok (.aload_n 0, 1) := by decide +kernel
theorem dX6_code_6 : decode cX6_code 6 = .ok (.getfield 15, 3) := by decide +kernel
theorem dX6_code_9 : decode cX6_code 9 = .ok (.if_icmp .ge 21, 3) := by decide +kernel
theorem dX6_code_12 : decode cX6_code 12 = .ok (.iload_n 1, 1) := by decide +kernel
theorem dX6_code_13 : decode cX6_code 13 = .ok (.aload_n 0, 1) := by decide +kernel
theorem dX6_code_14 : decode cX6_code 14 = .ok (.getfield 9, 3) := by decide +kernel
theorem dX6_code_17 : decode cX6_code 17 = .ok (.arraylength, 1) := by decide +kernel
theorem dX6_code_18 : decode cX6_code 18 = .ok (.if_icmp .ge 12, 3) := by decide +kernel
theorem dX6_code_21 : decode cX6_code 21 = .ok (.aload_n 0, 1) := by decide +kernel
theorem dX6_code_22 : decode cX6_code 22 = .ok (.getfield 9, 3) := by decide +kernel
theorem dX6_code_25 : decode cX6_code 25 = .ok (.iload_n 1, 1) := by decide +kernel
theorem dX6_code_26 : decode cX6_code 26 = .ok (.iaload, 1) := by decide +kernel
theorem dX6_code_27 : decode cX6_code 27 = .ok (.goto 4, 3) := by decide +kernel
theorem dX6_code_30 : decode cX6_code 30 = .ok (.iconst (-1), 1) := by decide +kernel
theorem dX6_code_31 : decode cX6_code 31 = .ok (.ireturn, 1) := by decide +kernel
theorem dX6_change_0 : decode cX6_change 0 = .ok (.iload_n 1, 1) := by decide +kernel
theorem dX6_change_1 : decode cX6_change 1 = .ok (.ifCond .lt 27, 3) := by decide +kernel
theorem dX6_change_4 : decode cX6_change 4 = .ok (.iload_n 1, 1) := by decide +kernel
theorem dX6_change_5 : decode cX6_change 5 = .ok (.aload_n 0, 1) := by decide +kernel
theorem dX6_change_6 : decode cX6_change 6 = .ok (.getfield 15, 3) := by decide +kernel
theorem dX6_change_9 : decode cX6_change 9 = .ok (.if_icmp .ge 19, 3) := by decide +kernel
theorem dX6_change_12 : decode cX6_change 12 = .ok (.iload_n 1, 1) := by decide +kernel
theorem dX6_change_13 : decode cX6_change 13 = .ok (.aload_n 0, 1) := by decide +kernel
theorem dX6_change_14 : decode cX6_change 14 = .ok (.getfield 9, 3) := by decide +kernel
theorem dX6_change_17 : decode cX6_change 17 = .ok (.arraylength, 1) := by decide +kernel
theorem dX6_change_18 : decode cX6_change 18 = .ok (.if_icmp .ge 10, 3) := by decide +kernel
theorem dX6_change_21 : decode cX6_change 21 = .ok (.aload_n 0, 1) := by decide +kernel
theorem dX6_change_22 : decode cX6_change 22 = .ok (.getfield 9, 3) := by decide +kernel
theorem dX6_change_25 : decode cX6_change 25 = .ok (.iload_n 1, 1) := by decide +kernel
theorem dX6_change_26 : decode cX6_change 26 = .ok (.iload_n 2, 1) := by decide +kernel
theorem dX6_change_27 : decode cX6_change 27 = .ok (.iastore, 1) := by decide +kernel
theorem dX6_change_28 : decode cX6_change 28 = .ok (.return_, 1) := by decide +kernel
theorem dX6_empty_0 : decode cX6_empty 0 = .ok (.aload_n 0, 1) := by decide +kernel
theorem dX6_empty_1 : decode cX6_empty 1 = .ok (.iconst 0, 1) := by decide +kernel
theorem dX6_empty_2 : decode cX6_empty 2 = .ok (.putfield 15, 3) := by decide +kernel
theorem dX6_empty_5 : decode cX6_empty 5 = .ok (.return_, 1) := by decide +kernel
theorem dX6_copyFrom_0 : decode cX6_copyFrom 0 = .ok (.aload_n 0, 1) := by decide +kernel
theorem dX6_copyFrom_1 : decode cX6_copyFrom 1 = .ok (.aload_n 1, 1) := by decide +kernel
theorem dX6_copyFrom_2 : decode cX6_copyFrom 2 = .ok (.getfield 15, 3) := by decide +kernel
theorem dX6_copyFrom_5 : decode cX6_copyFrom 5 = .ok (.aload_n 0, 1) := by decide +kernel
theorem dX6_copyFrom_6 : decode cX6_copyFrom 6 = .ok (.getfield 9, 3) := by decide +kernel
theorem dX6_copyFrom_9 : decode cX6_copyFrom 9 = .ok (.arraylength, 1) := by decide +kernel
theorem dX6_copyFrom_10 : decode cX6_copyFrom 10 = .ok (.invokestatic 19, 3) := by decide +kernel
theorem dX6_copyFrom_13 : decode cX6_copyFrom 13 = .ok (.putfield 15, 3) := by decide +kernel
theorem dX6_copyFrom_16 : decode cX6_copyFrom 16 = .ok (.aload_n 1, 1) := by decide +kernel
theorem dX6_copyFrom_17 : decode cX6_copyFrom 17 = .ok (.getfield 9, 3) := by decide +kernel
theorem dX6_copyFrom_20 : decode cX6_copyFrom 20 = .ok (.iconst 0, 1) := by decide +kernel
theorem dX6_copyFrom_21 : decode cX6_copyFrom 21 = .ok (.aload_n 0, 1) := by decide +kernel
theorem dX6_copyFrom_22 : decode cX6_copyFrom 22 = .ok (.getfield 9, 3) := by decide +kernel
theorem dX6_copyFrom_25 : decode cX6_copyFrom 25 = .ok (.iconst 0, 1) := by decide +kernel
theorem dX6_copyFrom_26 : decode cX6_copyFrom 26 = .ok (.aload_n 0, 1) := by decide +kernel
theorem dX6_copyFrom_27 : decode cX6_copyFrom 27 = .ok (.getfield 15, 3) := by decide +kernel
theorem dX6_copyFrom_30 : decode cX6_copyFrom 30 = .ok (.invokestatic 25, 3) := by decide +kernel
theorem dX6_copyFrom_33 : decode cX6_copyFrom 33 = .ok (.return_, 1) := by decide +kernel
theorem dX6_insertCode_0 : decode cX6_insertCode 0 = .ok (.iload_n 1, 1) := by decide +kernel
theorem dX6_insertCode_1 : decode cX6_insertCode 1 = .ok (.ifCond .lt 19, 3) := by decide +kernel
theorem dX6_insertCode_4 : decode cX6_insertCode 4 = .ok (.iload_n 1, 1) := by decide +kernel
theorem dX6_insertCode_5 : decode cX6_insertCode 5 = .ok (.aload_n 0, 1) := by decide +kernel
theorem dX6_insertCode_6 : decode cX6_insertCode 6 = .ok (.getfield 15, 3) := by decide +kernel
theorem dX6_insertCode_9 : decode cX6_insertCode 9 = .ok (.if_icmp .gt 11, 3) := by decide +kernel
theorem dX6_insertCode_12 : decode cX6_insertCode 12 = .ok (.aload_n 0, 1) := by decide +kernel
theorem dX6_insertCode_13 : decode cX6_insertCode 13 = .ok (.invokevirtual 31, 3) := by decide +kernel
theorem dX6_insertCode_16 : decode cX6_insertCode 16 = .ok (.iconst 1, 1) := by decide +kernel
theorem dX6_insertCode_17 : decode cX6_insertCode 17 = .ok (.if_icmp .ge 4, 3) := by decide +kernel
theorem dX6_insertCode_20 : decode cX6_insertCode 20 = .ok (.return_, 1) := by decide +kernel
theorem dX6_insertCode_21 : decode cX6_insertCode 21 = .ok (.aload_n 0, 1) := by decide +kernel
theorem dX6_insertCode_22 : decode cX6_insertCode 22 = .ok (.getfield 9, 3) := by decide +kernel
theorem dX6_insertCode_25 : decode cX6_insertCode 25 = .ok (.iload_n 1, 1) := by decide +kernel
theorem dX6_insertCode_26 : decode cX6_insertCode 26 = .ok (.aload_n 0, 1) := by decide +kernel
theorem dX6_insertCode_27 : decode cX6_insertCode 27 = .ok (.getfield 9, 3) := by decide +kernel
theorem dX6_insertCode_30 : decode cX6_insertCode 30 = .ok (.iload_n 1, 1) := by decide +kernel
theorem dX6_insertCode_31 : decode cX6_insertCode 31 = .ok (.iconst 1, 1) := by decide +kernel
theorem dX6_insertCode_32 : decode cX6_insertCode 32 = .ok (.iadd, 1) := by decide +kernel
theorem dX6_insertCode_33 : decode cX6_insertCode 33 = .ok (.aload_n 0, 1) := by decide +kernel
theorem dX6_insertCode_34 : decode cX6_insertCode 34 = .ok (.getfield 15, 3) := by decide +kernel
theorem dX6_insertCode_37 : decode cX6_insertCode 37 = .ok (.iload_n 1, 1) := by decide +kernel
theorem dX6_insertCode_38 : decode cX6_insertCode 38 = .ok (.isub, 1) := by decide +kernel
theorem dX6_insertCode_39 : decode cX6_insertCode 39 = .ok (.invokestatic 25, 3) := by decide +kernel
theorem dX6_insertCode_42 : decode cX6_insertCode 42 = .ok (.aload_n 0, 1) := by decide +kernel
theorem dX6_insertCode_43 : decode cX6_insertCode 43 = .ok (.dup, 1) := by decide +kernel
theorem dX6_insertCode_44 : decode cX6_insertCode 44 = .ok (.getfield 15, 3) := by decide +kernel
theorem dX6_insertCode_47 : decode cX6_insertCode 47 = .ok (.iconst 1, 1) := by decide +kernel
theorem dX6_insertCode_48 : decode cX6_insertCode 48 = .ok (.iadd, 1) := by decide +kernel
theorem dX6_insertCode_49 : decode cX6_insertCode 49 = .ok (.putfield 15, 3) := by decide +kernel
theorem dX6_insertCode_52 : decode cX6_insertCode 52 = .ok (.aload_n 0, 1) := by decide +kernel
theorem dX6_insertCode_53 : decode cX6_insertCode 53 = .ok (.getfield 9, 3) := by decide +kernel
theorem dX6_insertCode_56 : decode cX6_insertCode 56 = .ok (.iload_n 1, 1) := by decide +kernel
theorem dX6_insertCode_57 : decode cX6_insertCode 57 = .ok (.iload_n 2, 1) := by decide +kernel
theorem dX6_insertCode_58 : decode cX6_insertCode 58 = .ok (.iastore, 1) := by decide +kernel
theorem dX6_insertCode_59 : decode cX6_insertCode 59 = .ok (.return_, 1) := by decide +kernel
theorem dX6_insertPart_0 : decode cX6_insertPart 0 = .ok (.iload 4, 2) := by decide +kernel
theorem dX6_insertPart_2 : decode cX6_insertPart 2 = .ok (.iload_n 3, 1) := by decide +kernel
theorem dX6_insertPart_3 : decode cX6_insertPart 3 = .ok (.isub, 1) := by decide +kernel
theorem dX6_insertPart_4 : decode cX6_insertPart 4 = .ok (.istore 5, 2) := by decide +kernel
theorem dX6_insertPart_6 : decode cX6_insertPart 6 = .ok (.iload_n 3, 1) := by decide +kernel
theorem dX6_insertPart_7 : decode cX6_insertPart 7 = .ok (.ifCond .lt 38, 3) := by decide +kernel
theorem dX6_insertPart_10 : decode cX6_insertPart 10 = .ok (.iload 5, 2) := by decide +kernel
theorem dX6_insertPart_12 : decode cX6_insertPart 12 = .ok (.ifCond .lt 33, 3) := by decide +kernel
theorem dX6_insertPart_15 : decode cX6_insertPart 15 = .ok (.iload 4, 2) := by decide +kernel
theorem dX6_insertPart_17 : decode cX6_insertPart 17 = .ok (.aload_n 2, 1) := by decide +kernel
theorem dX6_insertPart_18 : decode cX6_insertPart 18 = .ok (.getfield 15, 3) := by decide +kernel
theorem dX6_insertPart_21 : decode cX6_insertPart 21 = .ok (.if_icmp .gt 24, 3) := by decide +kernel
theorem dX6_insertPart_24 : decode cX6_insertPart 24 = .ok (.iload_n 1, 1) := by decide +kernel
theorem dX6_insertPart_25 : decode cX6_insertPart 25 = .ok (.ifCond .lt 20, 3) := by decide +kernel
theorem dX6_insertPart_28 : decode cX6_insertPart 28 = .ok (.iload_n 1, 1) := by decide +kernel
theorem dX6_insertPart_29 : decode cX6_insertPart 29 = .ok (.aload_n 0, 1) := by decide +kernel
theorem dX6_insertPart_30 : decode cX6_insertPart 30 = .ok (.getfield 15, 3) := by decide +kernel
theorem dX6_insertPart_33 : decode cX6_insertPart 33 = .ok (.if_icmp .gt 12, 3) := by decide +kernel
theorem dX6_insertPart_36 : decode cX6_insertPart 36 = .ok (.iload 5, 2) := by decide +kernel
theorem dX6_insertPart_38 : decode cX6_insertPart 38 = .ok (.aload_n 0, 1) := by decide +kernel
theorem dX6_insertPart_39 : decode cX6_insertPart 39 = .ok (.invokevirtual 31, 3) := by decide +kernel
theorem dX6_insertPart_42 : decode cX6_insertPart 42 = .ok (.if_icmp .le 4, 3) := by decide +kernel
theorem dX6_insertPart_45 : decode cX6_insertPart 45 = .ok (.return_, 1) := by decide +kernel
theorem dX6_insertPart_46 : decode cX6_insertPart 46 = .ok (.aload_n 0, 1) := by decide +kernel
theorem dX6_insertPart_47 : decode cX6_insertPart 47 = .ok (.getfield 9, 3) := by decide +kernel
theorem dX6_insertPart_50 : decode cX6_insertPart 50 = .ok (.iload_n 1, 1) := by decide +kernel
theorem dX6_insertPart_51 : decode cX6_insertPart 51 = .ok (.aload_n 0, 1) := by decide +kernel
theorem dX6_insertPart_52 : decode cX6_insertPart 52 = .ok (.getfield 9, 3) := by decide +kernel
theorem dX6_insertPart_55 : decode cX6_insertPart 55 = .ok (.iload_n 1, 1) := by decide +kernel
theorem dX6_insertPart_56 : decode cX6_insertPart 56 = .ok (.iload 5, 2) := by decide +kernel
theorem dX6_insertPart_58 : decode cX6_insertPart 58 = .ok (.iadd, 1) := by decide +kernel
theorem dX6_insertPart_59 : decode cX6_insertPart 59 = .ok (.aload_n 0, 1) := by decide +kernel
theorem dX6_insertPart_60 : decode cX6_insertPart 60 = .ok (.getfield 15, 3) := by decide +kernel
theorem dX6_insertPart_63 : decode cX6_insertPart 63 = .ok (.iload_n 1, 1) := by decide +kernel
theorem dX6_insertPart_64 : decode cX6_insertPart 64 = .ok (.isub, 1) := by decide +kernel
theorem dX6_insertPart_65 : decode cX6_insertPart 65 = .ok (.invokestatic 25, 3) := by decide +kernel
theorem dX6_insertPart_68 : decode cX6_insertPart 68 = .ok (.aload_n 2, 1) := by decide +kernel
theorem dX6_insertPart_69 : decode cX6_insertPart 69 = .ok (.getfield 9, 3) := by decide +kernel
theorem dX6_insertPart_72 : decode cX6_insertPart 72 = .ok (.iload_n 3, 1) := by decide +kernel
theorem dX6_insertPart_73 : decode cX6_insertPart 73 = .ok (.aload_n 0, 1) := by decide +kernel
theorem dX6_insertPart_74 : decode cX6_insertPart 74 = .ok (.getfield 9, 3) := by decide +kernel
theorem dX6_insertPart_77 : decode cX6_insertPart 77 = .ok (.iload_n 1, 1) := by decide +kernel
theorem dX6_insertPart_78 : decode cX6_insertPart 78 = .ok (.iload 5, 2) := by decide +kernel
theorem dX6_insertPart_80 : decode cX6_insertPart 80 = .ok (.invokestatic 25, 3) := by decide +kernel
theorem dX6_insertPart_83 : decode cX6_insertPart 83 = .ok (.aload_n 0, 1) := by decide +kernel
theorem dX6_insertPart_84 : decode cX6_insertPart 84 = .ok (.dup, 1) := by decide +kernel
theorem dX6_insertPart_85 : decode cX6_insertPart 85 = .ok (.getfield 15, 3) := by decide +kernel
theorem dX6_insertPart_88 : decode cX6_insertPart 88 = .ok (.iload 5, 2) := by decide +kernel
theorem dX6_insertPart_90 : decode cX6_insertPart 90 = .ok (.iadd, 1) := by decide +kernel
theorem dX6_insertPart_91 : decode cX6_insertPart 91 = .ok (.putfield 15, 3) := by decide +kernel
theorem dX6_insertPart_94 : decode cX6_insertPart 94 = .ok (.return_, 1) := by decide +kernel
theorem dX6_takeOut_0 : decode cX6_takeOut 0 = .ok (.iload_n 1, 1) := by decide +kernel
theorem dX6_takeOut_1 : decode cX6_takeOut 1 = .ok (.ifCond .lt 16, 3) := by decide +kernel
theorem dX6_takeOut_4 : decode cX6_takeOut 4 = .ok (.iload_n 1, 1) := by decide +kernel
theorem dX6_takeOut_5 : decode cX6_takeOut 5 = .ok (.iload_n 2, 1) := by decide +kernel
theorem dX6_takeOut_6 : decode cX6_takeOut 6 = .ok (.if_icmp .gt 11, 3) := by decide +kernel
theorem dX6_takeOut_9 : decode cX6_takeOut 9 = .ok (.iload_n 2, 1) := by decide +kernel
theorem dX6_takeOut_10 : decode cX6_takeOut 10 = .ok (.aload_n 0, 1) := by decide +kernel
theorem dX6_takeOut_11 : decode cX6_takeOut 11 = .ok (.getfield 15, 3) := by decide +kernel
theorem dX6_takeOut_14 : decode cX6_takeOut 14 = .ok (.if_icmp .le 4, 3) := by decide +kernel
theorem dX6_takeOut_17 : decode cX6_takeOut 17 = .ok (.return_, 1) := by decide +kernel
theorem dX6_takeOut_18 : decode cX6_takeOut 18 = .ok (.aload_n 0, 1) := by decide +kernel
theorem dX6_takeOut_19 : decode cX6_takeOut 19 = .ok (.getfield 9, 3) := by decide +kernel
theorem dX6_takeOut_22 : decode cX6_takeOut 22 = .ok (.iload_n 2, 1) := by decide +kernel
theorem dX6_takeOut_23 : decode cX6_takeOut 23 = .ok (.aload_n 0, 1) := by decide +kernel
theorem dX6_takeOut_24 : decode cX6_takeOut 24 = .ok (.getfield 9, 3) := by decide +kernel
theorem dX6_takeOut_27 : decode cX6_takeOut 27 = .ok (.iload_n 1, 1) := by decide +kernel
theorem dX6_takeOut_28 : decode cX6_takeOut 28 = .ok (.aload_n 0, 1) := by decide +kernel
theorem dX6_takeOut_29 : decode cX6_takeOut 29 = .ok (.getfield 15, 3) := by decide +kernel
theorem dX6_takeOut_32 : decode cX6_takeOut 32 = .ok (.iload_n 2, 1) := by decide +kernel
theorem dX6_takeOut_33 : decode cX6_takeOut 33 = .ok (.isub, 1) := by decide +kernel
theorem dX6_takeOut_34 : decode cX6_takeOut 34 = .ok (.invokestatic 25, 3) := by decide +kernel
theorem dX6_takeOut_37 : decode cX6_takeOut 37 = .ok (.aload_n 0, 1) := by decide +kernel
theorem dX6_takeOut_38 : decode cX6_takeOut 38 = .ok (.dup, 1) := by decide +kernel
theorem dX6_takeOut_39 : decode cX6_takeOut 39 = .ok (.getfield 15, 3) := by decide +kernel
theorem dX6_takeOut_42 : decode cX6_takeOut 42 = .ok (.iload_n 2, 1) := by decide +kernel
theorem dX6_takeOut_43 : decode cX6_takeOut 43 = .ok (.iload_n 1, 1) := by decide +kernel
theorem dX6_takeOut_44 : decode cX6_takeOut 44 = .ok (.isub, 1) := by decide +kernel
theorem dX6_takeOut_45 : decode cX6_takeOut 45 = .ok (.isub, 1) := by decide +kernel
theorem dX6_takeOut_46 : decode cX6_takeOut 46 = .ok (.putfield 15, 3) := by decide +kernel
theorem dX6_takeOut_49 : decode cX6_takeOut 49 = .ok (.return_, 1) := by decide +kernel
theorem dX7_init_0 : decode cX7_init 0 = .ok (.aload_n 0, 1) := by decide +kernel
theorem dX7_init_1 : decode cX7_init 1 = .ok (.invokespecial 1, 3) := by decide +kernel
theorem dX7_init_4 : decode cX7_init 4 = .ok (.aload_n 0, 1) := by decide +kernel
theorem dX7_init_5 : decode cX7_init 5 = .ok (.new 7, 3) := by decide +kernel
theorem dX7_init_8 : decode cX7_init 8 = .ok (.dup, 1) := by decide +kernel
theorem dX7_init_9 : decode cX7_init 9 = .ok (.invokespecial 9, 3) := by decide +kernel
theorem dX7_init_12 : decode cX7_init 12 = .ok (.putfield 10, 3) := by decide +kernel
theorem dX7_init_15 : decode cX7_init 15 = .ok (.aload_n 0, 1) := by decide +kernel
theorem dX7_init_16 : decode cX7_init 16 = .ok (.new 16, 3) := by decide +kernel
theorem dX7_init_19 : decode cX7_init 19 = .ok (.dup, 1) := by decide +kernel
theorem dX7_init_20 : decode cX7_init 20 = .ok (.invokespecial 18, 3) := by decide +kernel
theorem dX7_init_23 : decode cX7_init 23 = .ok (.putfield 19, 3) := by decide +kernel
theorem dX7_init_26 : decode cX7_init 26 = .ok (.aload_n 0, 1) := by decide +kernel
theorem dX7_init_27 : decode cX7_init 27 = .ok (.iconst 2, 1) := by decide +kernel
theorem dX7_init_28 : decode cX7_init 28 = .ok (.anewarray 7, 3) := by decide +kernel
theorem dX7_init_31 : decode cX7_init 31 = .ok (.putfield 23, 3) := by decide +kernel
theorem dX7_init_34 : decode cX7_init 34 = .ok (.iconst 0, 1) := by decide +kernel
theorem dX7_init_35 : decode cX7_init 35 = .ok (.istore_n 1, 1) := by decide +kernel
theorem dX7_init_36 : decode cX7_init 36 = .ok (.iload_n 1, 1) := by decide +kernel
theorem dX7_init_37 : decode cX7_init 37 = .ok (.iconst 2, 1) := by decide +kernel
theorem dX7_init_38 : decode cX7_init 38 = .ok (.if_icmp .ge 22, 3) := by decide +kernel
theorem dX7_init_41 : decode cX7_init 41 = .ok (.aload_n 0, 1) := by decide +kernel
theorem dX7_init_42 : decode cX7_init 42 = .ok (.getfield 23, 3) := by decide +kernel
theorem dX7_init_45 : decode cX7_init 45 = .ok (.iload_n 1, 1) := by decide +kernel
theorem dX7_init_46 : decode cX7_init 46 = .ok (.new 7, 3) := by decide +kernel
theorem dX7_init_49 : decode cX7_init 49 = .ok (.dup, 1) := by decide +kernel
theorem dX7_init_50 : decode cX7_init 50 = .ok (.invokespecial 9, 3) := by decide +kernel
theorem dX7_init_53 : decode cX7_init 53 = .ok (.aastore, 1) := by decide +kernel
theorem dX7_init_54 : decode cX7_init 54 = .ok (.iinc 1 1, 3) := by decide +kernel
theorem dX7_init_57 : decode cX7_init 57 = .ok (.goto (-21), 3) := by decide +kernel
theorem dX7_init_60 : decode cX7_init 60 = .ok (.aload_n 0, 1) := by decide +kernel
theorem dX7_init_61 : decode cX7_init 61 = .ok (.iconst 2, 1) := by decide +kernel
theorem dX7_init_62 : decode cX7_init 62 = .ok (.newarray .boolean, 2) := by decide +kernel
theorem dX7_init_64 : decode cX7_init 64 = .ok (.putfield 27, 3) := by decide +kernel
theorem dX7_init_67 : decode cX7_init 67 = .ok (.aload_n 0, 1) := by decide +kernel
theorem dX7_init_68 : decode cX7_init 68 = .ok (.new 31, 3) := by decide +kernel
theorem dX7_init_71 : decode cX7_init 71 = .ok (.dup, 1) := by decide +kernel
theorem dX7_init_72 : decode cX7_init 72 = .ok (.bipush 60, 2) := by decide +kernel
theorem dX7_init_74 : decode cX7_init 74 = .ok (.invokespecial 33, 3) := by decide +kernel
theorem dX7_init_77 : decode cX7_init 77 = .ok (.putfield 36, 3) := by decide +kernel
theorem dX7_init_80 : decode cX7_init 80 = .ok (.return_, 1) := by decide +kernel
theorem dX7_write_0 : decode cX7_write 0 = .ok (.iload_n 1, 1) := by decide +kernel
theorem dX7_write_1 : decode cX7_write 1 = .ok (.bipush 10, 2) := by decide +kernel
theorem dX7_write_3 : decode cX7_write 3 = .ok (.if_icmp .eq 25, 3) := by decide +kernel
theorem dX7_write_6 : decode cX7_write 6 = .ok (.iload_n 1, 1) := by decide +kernel
theorem dX7_write_7 : decode cX7_write 7 = .ok (.bipush 32, 2) := by decide +kernel
theorem dX7_write_9 : decode cX7_write 9 = .ok (.if_icmp .lt 9, 3) := by decide +kernel
theorem dX7_write_12 : decode cX7_write 12 = .ok (.iload_n 1, 1) := by decide +kernel
theorem dX7_write_13 : decode cX7_write 13 = .ok (.bipush 126, 2) := by decide +kernel
theorem dX7_write_15 : decode cX7_write 15 = .ok (.if_icmp .le 13, 3) := by decide +kernel
theorem dX7_write_18 : decode cX7_write 18 = .ok (.new 40, 3) := by decide +kernel
theorem dX7_write_21 : decode cX7_write 21 = .ok (.dup, 1) := by decide +kernel
theorem dX7_write_22 : decode cX7_write 22 = .ok (.ldc 42, 2) := by decide +kernel
theorem dX7_write_24 : decode cX7_write 24 = .ok (.invokespecial 44, 3) := by decide +kernel
theorem dX7_write_27 : decode cX7_write 27 = .ok (.athrow, 1) := by decide +kernel
theorem dX7_write_28 : decode cX7_write 28 = .ok (.aload_n 0, 1) := by decide +kernel
theorem dX7_write_29 : decode cX7_write 29 = .ok (.getfield 19, 3) := by decide +kernel
theorem dX7_write_32 : decode cX7_write 32 = .ok (.aload_n 0, 1) := by decide +kernel
theorem dX7_write_33 : decode cX7_write 33 = .ok (.getfield 10, 3) := by decide +kernel
theorem dX7_write_36 : decode cX7_write 36 = .ok (.invokevirtual 47, 3) := by decide +kernel
theorem dX7_write_39 : decode cX7_write 39 = .ok (.aload_n 0, 1) := by decide +kernel
theorem dX7_write_40 : decode cX7_write 40 = .ok (.aload_n 0, 1) := by decide +kernel
theorem dX7_write_41 : decode cX7_write 41 = .ok (.getfield 10, 3) := by decide +kernel
theorem dX7_write_44 : decode cX7_write 44 = .ok (.iload_n 1, 1) := by decide +kernel
theorem dX7_write_45 : decode cX7_write 45 = .ok (.invokevirtual 51, 3) := by decide +kernel
theorem dX7_write_48 : decode cX7_write 48 = .ok (.invokevirtual 55, 3) := by decide +kernel
theorem dX7_write_51 : decode cX7_write 51 = .ok (.ireturn, 1) := by decide +kernel
theorem dX7_rub_0 : decode cX7_rub 0 = .ok (.aload_n 0, 1) := by decide +kernel
theorem dX7_rub_1 : decode cX7_rub 1 = .ok (.getfield 19, 3) := by decide +kernel
theorem dX7_rub_4 : decode cX7_rub 4 = .ok (.aload_n 0, 1) := by decide +kernel
theorem dX7_rub_5 : decode cX7_rub 5 = .ok (.getfield 10, 3) := by decide +kernel
theorem dX7_rub_8 : decode cX7_rub 8 = .ok (.invokevirtual 47, 3) := by decide +kernel
theorem dX7_rub_11 : decode cX7_rub 11 = .ok (.aload_n 0, 1) := by decide +kernel
theorem dX7_rub_12 : decode cX7_rub 12 = .ok (.aload_n 0, 1) := by decide +kernel
theorem dX7_rub_13 : decode cX7_rub 13 = .ok (.getfield 10, 3) := by decide +kernel
theorem dX7_rub_16 : decode cX7_rub 16 = .ok (.invokevirtual 58, 3) := by decide +kernel
theorem dX7_rub_19 : decode cX7_rub 19 = .ok (.invokevirtual 55, 3) := by decide +kernel
theorem dX7_rub_22 : decode cX7_rub 22 = .ok (.ireturn, 1) := by decide +kernel
theorem dX7_swap_0 : decode cX7_swap 0 = .ok (.aload_n 0, 1) := by decide +kernel
theorem dX7_swap_1 : decode cX7_swap 1 = .ok (.getfield 19, 3) := by decide +kernel
theorem dX7_swap_4 : decode cX7_swap 4 = .ok (.aload_n 0, 1) := by decide +kernel
theorem dX7_swap_5 : decode cX7_swap 5 = .ok (.getfield 10, 3) := by decide +kernel
theorem dX7_swap_8 : decode cX7_swap 8 = .ok (.invokevirtual 47, 3) := by decide +kernel
theorem dX7_swap_11 : decode cX7_swap 11 = .ok (.aload_n 0, 1) := by decide +kernel
theorem dX7_swap_12 : decode cX7_swap 12 = .ok (.aload_n 0, 1) := by decide +kernel
theorem dX7_swap_13 : decode cX7_swap 13 = .ok (.getfield 10, 3) := by decide +kernel
theorem dX7_swap_16 : decode cX7_swap 16 = .ok (.invokevirtual 62, 3) := by decide +kernel
theorem dX7_swap_19 : decode cX7_swap 19 = .ok (.invokevirtual 55, 3) := by decide +kernel
theorem dX7_swap_22 : decode cX7_swap 22 = .ok (.ireturn, 1) := by decide +kernel
theorem dX7_greaten_0 : decode cX7_greaten 0 = .ok (.aload_n 0, 1) := by decide +kernel
theorem dX7_greaten_1 : decode cX7_greaten 1 = .ok (.getfield 19, 3) := by decide +kernel
theorem dX7_greaten_4 : decode cX7_greaten 4 = .ok (.aload_n 0, 1) := by decide +kernel
theorem dX7_greaten_5 : decode cX7_greaten 5 = .ok (.getfield 10, 3) := by decide +kernel
theorem dX7_greaten_8 : decode cX7_greaten 8 = .ok (.invokevirtual 47, 3) := by decide +kernel
theorem dX7_greaten_11 : decode cX7_greaten 11 = .ok (.aload_n 0, 1) := by decide +kernel
theorem dX7_greaten_12 : decode cX7_greaten 12 = .ok (.aload_n 0, 1) := by decide +kernel
theorem dX7_greaten_13 : decode cX7_greaten 13 = .ok (.getfield 10, 3) := by decide +kernel
theorem dX7_greaten_16 : decode cX7_greaten 16 = .ok (.invokevirtual 65, 3) := by decide +kernel
theorem dX7_greaten_19 : decode cX7_greaten 19 = .ok (.invokevirtual 55, 3) := by decide +kernel
theorem dX7_greaten_22 : decode cX7_greaten 22 = .ok (.ireturn, 1) := by decide +kernel
theorem dX7_goTo_0 : decode cX7_goTo 0 = .ok (.iload_n 1, 1) := by decide +kernel
theorem dX7_goTo_1 : decode cX7_goTo 1 = .ok (.ifCond .lt 20, 3) := by decide +kernel
theorem dX7_goTo_4 : decode cX7_goTo 4 = .ok (.iload_n 1, 1) := by decide +kernel
theorem dX7_goTo_5 : decode cX7_goTo 5 = .ok (.aload_n 0, 1) := by decide +kernel
theorem dX7_goTo_6 : decode cX7_goTo 6 = .ok (.getfield 10, 3) := by decide +kernel
theorem dX7_goTo_9 : decode cX7_goTo 9 = .ok (.getfield 68, 3) := by decide +kernel
theorem dX7_goTo_12 : decode cX7_goTo 12 = .ok (.getfield 72, 3) := by decide +kernel
theorem dX7_goTo_15 : decode cX7_goTo 15 = .ok (.invokevirtual 77, 3) := by decide +kernel
theorem dX7_goTo_18 : decode cX7_goTo 18 = .ok (.if_icmp .le 13, 3) := by decide +kernel
theorem dX7_goTo_21 : decode cX7_goTo 21 = .ok (.new 40, 3) := by decide +kernel
theorem dX7_goTo_24 : decode cX7_goTo 24 = .ok (.dup, 1) := by decide +kernel
theorem dX7_goTo_25 : decode cX7_goTo 25 = .ok (.ldc 80, 2) := by decide +kernel
theorem dX7_goTo_27 : decode cX7_goTo 27 = .ok (.invokespecial 44, 3) := by decide +kernel
theorem dX7_goTo_30 : decode cX7_goTo 30 = .ok (.athrow, 1) := by decide +kernel
theorem dX7_goTo_31 : decode cX7_goTo 31 = .ok (.aload_n 0, 1) := by decide +kernel
theorem dX7_goTo_32 : decode cX7_goTo 32 = .ok (.getfield 19, 3) := by decide +kernel
theorem dX7_goTo_35 : decode cX7_goTo 35 = .ok (.aload_n 0, 1) := by decide +kernel
theorem dX7_goTo_36 : decode cX7_goTo 36 = .ok (.getfield 10, 3) := by decide +kernel
theorem dX7_goTo_39 : decode cX7_goTo 39 = .ok (.invokevirtual 47, 3) := by decide +kernel
theorem dX7_goTo_42 : decode cX7_goTo 42 = .ok (.aload_n 0, 1) := by decide +kernel
theorem dX7_goTo_43 : decode cX7_goTo 43 = .ok (.aload_n 0, 1) := by decide +kernel
theorem dX7_goTo_44 : decode cX7_goTo 44 = .ok (.getfield 10, 3) := by decide +kernel
theorem dX7_goTo_47 : decode cX7_goTo 47 = .ok (.iload_n 1, 1) := by decide +kernel
theorem dX7_goTo_48 : decode cX7_goTo 48 = .ok (.invokevirtual 82, 3) := by decide +kernel
theorem dX7_goTo_51 : decode cX7_goTo 51 = .ok (.invokevirtual 55, 3) := by decide +kernel
theorem dX7_goTo_54 : decode cX7_goTo 54 = .ok (.ireturn, 1) := by decide +kernel
theorem dX7_wordOn_0 : decode cX7_wordOn 0 = .ok (.aload_n 0, 1) := by decide +kernel
theorem dX7_wordOn_1 : decode cX7_wordOn 1 = .ok (.getfield 19, 3) := by decide +kernel
theorem dX7_wordOn_4 : decode cX7_wordOn 4 = .ok (.aload_n 0, 1) := by decide +kernel
theorem dX7_wordOn_5 : decode cX7_wordOn 5 = .ok (.getfield 10, 3) := by decide +kernel
theorem dX7_wordOn_8 : decode cX7_wordOn 8 = .ok (.invokevirtual 47, 3) := by decide +kernel
theorem dX7_wordOn_11 : decode cX7_wordOn 11 = .ok (.aload_n 0, 1) := by decide +kernel
theorem dX7_wordOn_12 : decode cX7_wordOn 12 = .ok (.aload_n 0, 1) := by decide +kernel
theorem dX7_wordOn_13 : decode cX7_wordOn 13 = .ok (.getfield 10, 3) := by decide +kernel
theorem dX7_wordOn_16 : decode cX7_wordOn 16 = .ok (.invokevirtual 85, 3) := by decide +kernel
theorem dX7_wordOn_19 : decode cX7_wordOn 19 = .ok (.invokevirtual 55, 3) := by decide +kernel
theorem dX7_wordOn_22 : decode cX7_wordOn 22 = .ok (.ireturn, 1) := by decide +kernel
theorem dX7_wordBack_0 : decode cX7_wordBack 0 = .ok (.aload_n 0, 1) := by decide +kernel
theorem dX7_wordBack_1 : decode cX7_wordBack 1 = .ok (.getfield 19, 3) := by decide +kernel
theorem dX7_wordBack_4 : decode cX7_wordBack 4 = .ok (.aload_n 0, 1) := by decide +kernel
theorem dX7_wordBack_5 : decode cX7_wordBack 5 = .ok (.getfield 10, 3) := by decide +kernel
theorem dX7_wordBack_8 : decode cX7_wordBack 8 = .ok (.invokevirtual 47, 3) := by decide +kernel
theorem dX7_wordBack_11 : decode cX7_wordBack 11 = .ok (.aload_n 0, 1) := by decide +kernel
theorem dX7_wordBack_12 : decode cX7_wordBack 12 = .ok (.aload_n 0, 1) := by decide +kernel
theorem dX7_wordBack_13 : decode cX7_wordBack 13 = .ok (.getfield 10, 3) := by decide +kernel
theorem dX7_wordBack_16 : decode cX7_wordBack 16 = .ok (.invokevirtual 88, 3) := by decide +kernel
theorem dX7_wordBack_19 : decode cX7_wordBack 19 = .ok (.invokevirtual 55, 3) := by decide +kernel
theorem dX7_wordBack_22 : decode cX7_wordBack 22 = .ok (.ireturn, 1) := by decide +kernel
theorem dX7_lineBegin_0 : decode cX7_lineBegin 0 = .ok (.aload_n 0, 1) := by decide +kernel
theorem dX7_lineBegin_1 : decode cX7_lineBegin 1 = .ok (.getfield 19, 3) := by decide +kernel
theorem dX7_lineBegin_4 : decode cX7_lineBegin 4 = .ok (.aload_n 0, 1) := by decide +kernel
theorem dX7_lineBegin_5 : decode cX7_lineBegin 5 = .ok (.getfield 10, 3) := by decide +kernel
theorem dX7_lineBegin_8 : decode cX7_lineBegin 8 = .ok (.invokevirtual 47, 3) := by decide +kernel
theorem dX7_lineBegin_11 : decode cX7_lineBegin 11 = .ok (.aload_n 0, 1) := by decide +kernel
theorem dX7_lineBegin_12 : decode cX7_lineBegin 12 = .ok (.aload_n 0, 1) := by decide +kernel
theorem dX7_lineBegin_13 : decode cX7_lineBegin 13 = .ok (.getfield 10, 3) := by decide +kernel
theorem dX7_lineBegin_16 : decode cX7_lineBegin 16 = .ok (.invokevirtual 91, 3) := by decide +kernel
theorem dX7_lineBegin_19 : decode cX7_lineBegin 19 = .ok (.invokevirtual 55, 3) := by decide +kernel
theorem dX7_lineBegin_22 : decode cX7_lineBegin 22 = .ok (.ireturn, 1) := by decide +kernel
theorem dX7_lineEnd_0 : decode cX7_lineEnd 0 = .ok (.aload_n 0, 1) := by decide +kernel
theorem dX7_lineEnd_1 : decode cX7_lineEnd 1 = .ok (.getfield 19, 3) := by decide +kernel
theorem dX7_lineEnd_4 : decode cX7_lineEnd 4 = .ok (.aload_n 0, 1) := by decide +kernel
theorem dX7_lineEnd_5 : decode cX7_lineEnd 5 = .ok (.getfield 10, 3) := by decide +kernel
theorem dX7_lineEnd_8 : decode cX7_lineEnd 8 = .ok (.invokevirtual 47, 3) := by decide +kernel
theorem dX7_lineEnd_11 : decode cX7_lineEnd 11 = .ok (.aload_n 0, 1) := by decide +kernel
theorem dX7_lineEnd_12 : decode cX7_lineEnd 12 = .ok (.aload_n 0, 1) := by decide +kernel
theorem dX7_lineEnd_13 : decode cX7_lineEnd 13 = .ok (.getfield 10, 3) := by decide +kernel
theorem dX7_lineEnd_16 : decode cX7_lineEnd 16 = .ok (.invokevirtual 94, 3) := by decide +kernel
theorem dX7_lineEnd_19 : decode cX7_lineEnd 19 = .ok (.invokevirtual 55, 3) := by decide +kernel
theorem dX7_lineEnd_22 : decode cX7_lineEnd 22 = .ok (.ireturn, 1) := by decide +kernel
theorem dX7_goLines_0 : decode cX7_goLines 0 = .ok (.iload_n 1, 1) := by decide +kernel
theorem dX7_goLines_1 : decode cX7_goLines 1 = .ok (.bipush (-50), 2) := by decide +kernel
theorem dX7_goLines_3 : decode cX7_goLines 3 = .ok (.if_icmp .lt 13, 3) := by decide +kernel
theorem dX7_goLines_6 : decode cX7_goLines 6 = .ok (.iload_n 1, 1) := by decide +kernel
theorem dX7_goLines_7 : decode cX7_goLines 7 = .ok (.bipush 50, 2) := by decide +kernel
theorem dX7_goLines_9 : decode cX7_goLines 9 = .ok (.if_icmp .gt 7, 3) := by decide +kernel
theorem dX7_goLines_12 : decode cX7_goLines 12 = .ok (.iload_n 1, 1) := by decide +kernel
theorem dX7_goLines_13 : decode cX7_goLines 13 = .ok (.ifCond .ne 13, 3) := by decide +kernel
theorem dX7_goLines_16 : decode cX7_goLines 16 = .ok (.new 40, 3) := by decide +kernel
theorem dX7_goLines_19 : decode cX7_goLines 19 = .ok (.dup, 1) := by decide +kernel
theorem dX7_goLines_20 : decode cX7_goLines 20 = .ok (.ldc 97, 2) := by decide +kernel
theorem dX7_goLines_22 : decode cX7_goLines 22 = .ok (.invokespecial 44, 3) := by decide +kernel
theorem dX7_goLines_25 : decode cX7_goLines 25 = .ok (.athrow, 1) := by decide +kernel
theorem dX7_goLines_26 : decode cX7_goLines 26 = .ok (.aload_n 0, 1) := by decide +kernel
theorem dX7_goLines_27 : decode cX7_goLines 27 = .ok (.getfield 19, 3) := by decide +kernel
theorem dX7_goLines_30 : decode cX7_goLines 30 = .ok (.aload_n 0, 1) := by decide +kernel
theorem dX7_goLines_31 : decode cX7_goLines 31 = .ok (.getfield 10, 3) := by decide +kernel
theorem dX7_goLines_34 : decode cX7_goLines 34 = .ok (.invokevirtual 47, 3) := by decide +kernel
theorem dX7_goLines_37 : decode cX7_goLines 37 = .ok (.aload_n 0, 1) := by decide +kernel
theorem dX7_goLines_38 : decode cX7_goLines 38 = .ok (.aload_n 0, 1) := by decide +kernel
theorem dX7_goLines_39 : decode cX7_goLines 39 = .ok (.getfield 10, 3) := by decide +kernel
theorem dX7_goLines_42 : decode cX7_goLines 42 = .ok (.iload_n 1, 1) := by decide +kernel
theorem dX7_goLines_43 : decode cX7_goLines 43 = .ok (.invokevirtual 99, 3) := by decide +kernel
theorem dX7_goLines_46 : decode cX7_goLines 46 = .ok (.invokevirtual 55, 3) := by decide +kernel
theorem dX7_goLines_49 : decode cX7_goLines 49 = .ok (.ireturn, 1) := by decide +kernel
theorem dX7_mark_0 : decode cX7_mark 0 = .ok (.aload_n 0, 1) := by decide +kernel
theorem dX7_mark_1 : decode cX7_mark 1 = .ok (.getfield 19, 3) := by decide +kernel
theorem dX7_mark_4 : decode cX7_mark 4 = .ok (.aload_n 0, 1) := by decide +kernel
theorem dX7_mark_5 : decode cX7_mark 5 = .ok (.getfield 10, 3) := by decide +kernel
theorem dX7_mark_8 : decode cX7_mark 8 = .ok (.invokevirtual 47, 3) := by decide +kernel
theorem dX7_mark_11 : decode cX7_mark 11 = .ok (.aload_n 0, 1) := by decide +kernel
theorem dX7_mark_12 : decode cX7_mark 12 = .ok (.aload_n 0, 1) := by decide +kernel
theorem dX7_mark_13 : decode cX7_mark 13 = .ok (.getfield 10, 3) := by decide +kernel
theorem dX7_mark_16 : decode cX7_mark 16 = .ok (.invokevirtual 102, 3) := by decide +kernel
theorem dX7_mark_19 : decode cX7_mark 19 = .ok (.invokevirtual 55, 3) := by decide +kernel
theorem dX7_mark_22 : decode cX7_mark 22 = .ok (.ireturn, 1) := by decide +kernel
theorem dX7_exchange_0 : decode cX7_exchange 0 = .ok (.aload_n 0, 1) := by decide +kernel
theorem dX7_exchange_1 : decode cX7_exchange 1 = .ok (.getfield 19, 3) := by decide +kernel
theorem dX7_exchange_4 : decode cX7_exchange 4 = .ok (.aload_n 0, 1) := by decide +kernel
theorem dX7_exchange_5 : decode cX7_exchange 5 = .ok (.getfield 10, 3) := by decide +kernel
theorem dX7_exchange_8 : decode cX7_exchange 8 = .ok (.invokevirtual 47, 3) := by decide +kernel
theorem dX7_exchange_11 : decode cX7_exchange 11 = .ok (.aload_n 0, 1) := by decide +kernel
theorem dX7_exchange_12 : decode cX7_exchange 12 = .ok (.aload_n 0, 1) := by decide +kernel
theorem dX7_exchange_13 : decode cX7_exchange 13 = .ok (.getfield 10, 3) := by decide +kernel
theorem dX7_exchange_16 : decode cX7_exchange 16 = .ok (.invokevirtual 105, 3) := by decide +kernel
theorem dX7_exchange_19 : decode cX7_exchange 19 = .ok (.invokevirtual 55, 3) := by decide +kernel
theorem dX7_exchange_22 : decode cX7_exchange 22 = .ok (.ireturn, 1) := by decide +kernel
theorem dX7_killWord_0 : decode cX7_killWord 0 = .ok (.aload_n 0, 1) := by decide +kernel
theorem dX7_killWord_1 : decode cX7_killWord 1 = .ok (.getfield 19, 3) := by decide +kernel
theorem dX7_killWord_4 : decode cX7_killWord 4 = .ok (.aload_n 0, 1) := by decide +kernel
theorem dX7_killWord_5 : decode cX7_killWord 5 = .ok (.getfield 10, 3) := by decide +kernel
theorem dX7_killWord_8 : decode cX7_killWord 8 = .ok (.invokevirtual 47, 3) := by decide +kernel
theorem dX7_killWord_11 : decode cX7_killWord 11 = .ok (.aload_n 0, 1) := by decide +kernel
theorem dX7_killWord_12 : decode cX7_killWord 12 = .ok (.aload_n 0, 1) := by decide +kernel
theorem dX7_killWord_13 : decode cX7_killWord 13 = .ok (.getfield 10, 3) := by decide +kernel
theorem dX7_killWord_16 : decode cX7_killWord 16 = .ok (.invokevirtual 114, 3) := by decide +kernel
theorem dX7_killWord_19 : decode cX7_killWord 19 = .ok (.invokevirtual 55, 3) := by decide +kernel
theorem dX7_killWord_22 : decode cX7_killWord 22 = .ok (.ireturn, 1) := by decide +kernel
theorem dX7_killBack_0 : decode cX7_killBack 0 = .ok (.aload_n 0, 1) := by decide +kernel
theorem dX7_killBack_1 : decode cX7_killBack 1 = .ok (.getfield 19, 3) := by decide +kernel
theorem dX7_killBack_4 : decode cX7_killBack 4 = .ok (.aload_n 0, 1) := by decide +kernel
theorem dX7_killBack_5 : decode cX7_killBack 5 = .ok (.getfield 10, 3) := by decide +kernel
theorem dX7_killBack_8 : decode cX7_killBack 8 = .ok (.invokevirtual 47, 3) := by decide +kernel
theorem dX7_killBack_11 : decode cX7_killBack 11 = .ok (.aload_n 0, 1) := by decide +kernel
theorem dX7_killBack_12 : decode cX7_killBack 12 = .ok (.aload_n 0, 1) := by decide +kernel
theorem dX7_killBack_13 : decode cX7_killBack 13 = .ok (.getfield 10, 3) := by decide +kernel
theorem dX7_killBack_16 : decode cX7_killBack 16 = .ok (.invokevirtual 117, 3) := by decide +kernel
theorem dX7_killBack_19 : decode cX7_killBack 19 = .ok (.invokevirtual 55, 3) := by decide +kernel
theorem dX7_killBack_22 : decode cX7_killBack 22 = .ok (.ireturn, 1) := by decide +kernel
theorem dX7_killLine_0 : decode cX7_killLine 0 = .ok (.aload_n 0, 1) := by decide +kernel
theorem dX7_killLine_1 : decode cX7_killLine 1 = .ok (.getfield 19, 3) := by decide +kernel
theorem dX7_killLine_4 : decode cX7_killLine 4 = .ok (.aload_n 0, 1) := by decide +kernel
theorem dX7_killLine_5 : decode cX7_killLine 5 = .ok (.getfield 10, 3) := by decide +kernel
theorem dX7_killLine_8 : decode cX7_killLine 8 = .ok (.invokevirtual 47, 3) := by decide +kernel
theorem dX7_killLine_11 : decode cX7_killLine 11 = .ok (.aload_n 0, 1) := by decide +kernel
theorem dX7_killLine_12 : decode cX7_killLine 12 = .ok (.aload_n 0, 1) := by decide +kernel
theorem dX7_killLine_13 : decode cX7_killLine 13 = .ok (.getfield 10, 3) := by decide +kernel
theorem dX7_killLine_16 : decode cX7_killLine 16 = .ok (.invokevirtual 120, 3) := by decide +kernel
theorem dX7_killLine_19 : decode cX7_killLine 19 = .ok (.invokevirtual 55, 3) := by decide +kernel
theorem dX7_killLine_22 : decode cX7_killLine 22 = .ok (.ireturn, 1) := by decide +kernel
theorem dX7_killBetween_0 : decode cX7_killBetween 0 = .ok (.aload_n 0, 1) := by decide +kernel
theorem dX7_killBetween_1 : decode cX7_killBetween 1 = .ok (.getfield 19, 3) := by decide +kernel
theorem dX7_killBetween_4 : decode cX7_killBetween 4 = .ok (.aload_n 0, 1) := by decide +kernel
theorem dX7_killBetween_5 : decode cX7_killBetween 5 = .ok (.getfield 10, 3) := by decide +kernel
theorem dX7_killBetween_8 : decode cX7_killBetween 8 = .ok (.invokevirtual 47, 3) := by decide +kernel
theorem dX7_killBetween_11 : decode cX7_killBetween 11 = .ok (.aload_n 0, 1) := by decide +kernel
theorem dX7_killBetween_12 : decode cX7_killBetween 12 = .ok (.aload_n 0, 1) := by decide +kernel
theorem dX7_killBetween_13 : decode cX7_killBetween 13 = .ok (.getfield 10, 3) := by decide +kernel
theorem dX7_killBetween_16 : decode cX7_killBetween 16 = .ok (.invokevirtual 123, 3) := by decide +kernel
theorem dX7_killBetween_19 : decode cX7_killBetween 19 = .ok (.invokevirtual 55, 3) := by decide +kernel
theorem dX7_killBetween_22 : decode cX7_killBetween 22 = .ok (.ireturn, 1) := by decide +kernel
theorem dX7_copyBetween_0 : decode cX7_copyBetween 0 = .ok (.aload_n 0, 1) := by decide +kernel
theorem dX7_copyBetween_1 : decode cX7_copyBetween 1 = .ok (.getfield 19, 3) := by decide +kernel
theorem dX7_copyBetween_4 : decode cX7_copyBetween 4 = .ok (.aload_n 0, 1) := by decide +kernel
theorem dX7_copyBetween_5 : decode cX7_copyBetween 5 = .ok (.getfield 10, 3) := by decide +kernel
theorem dX7_copyBetween_8 : decode cX7_copyBetween 8 = .ok (.invokevirtual 47, 3) := by decide +kernel
theorem dX7_copyBetween_11 : decode cX7_copyBetween 11 = .ok (.aload_n 0, 1) := by decide +kernel
theorem dX7_copyBetween_12 : decode cX7_copyBetween 12 = .ok (.aload_n 0, 1) := by decide +kernel
theorem dX7_copyBetween_13 : decode cX7_copyBetween 13 = .ok (.getfield 10, 3) := by decide +kernel
theorem dX7_copyBetween_16 : decode cX7_copyBetween 16 = .ok (.invokevirtual 126, 3) := by decide +kernel
theorem dX7_copyBetween_19 : decode cX7_copyBetween 19 = .ok (.invokevirtual 55, 3) := by decide +kernel
theorem dX7_copyBetween_22 : decode cX7_copyBetween 22 = .ok (.ireturn, 1) := by decide +kernel
theorem dX7_yank_0 : decode cX7_yank 0 = .ok (.aload_n 0, 1) := by decide +kernel
theorem dX7_yank_1 : decode cX7_yank 1 = .ok (.getfield 19, 3) := by decide +kernel
theorem dX7_yank_4 : decode cX7_yank 4 = .ok (.aload_n 0, 1) := by decide +kernel
theorem dX7_yank_5 : decode cX7_yank 5 = .ok (.getfield 10, 3) := by decide +kernel
theorem dX7_yank_8 : decode cX7_yank 8 = .ok (.invokevirtual 47, 3) := by decide +kernel
theorem dX7_yank_11 : decode cX7_yank 11 = .ok (.aload_n 0, 1) := by decide +kernel
theorem dX7_yank_12 : decode cX7_yank 12 = .ok (.aload_n 0, 1) := by decide +kernel
theorem dX7_yank_13 : decode cX7_yank 13 = .ok (.getfield 10, 3) := by decide +kernel
theorem dX7_yank_16 : decode cX7_yank 16 = .ok (.invokevirtual 129, 3) := by decide +kernel
theorem dX7_yank_19 : decode cX7_yank 19 = .ok (.invokevirtual 55, 3) := by decide +kernel
theorem dX7_yank_22 : decode cX7_yank 22 = .ok (.ireturn, 1) := by decide +kernel
theorem dX7_yankOther_0 : decode cX7_yankOther 0 = .ok (.aload_n 0, 1) := by decide +kernel
theorem dX7_yankOther_1 : decode cX7_yankOther 1 = .ok (.getfield 19, 3) := by decide +kernel
theorem dX7_yankOther_4 : decode cX7_yankOther 4 = .ok (.aload_n 0, 1) := by decide +kernel
theorem dX7_yankOther_5 : decode cX7_yankOther 5 = .ok (.getfield 10, 3) := by decide +kernel
theorem dX7_yankOther_8 : decode cX7_yankOther 8 = .ok (.invokevirtual 47, 3) := by decide +kernel
theorem dX7_yankOther_11 : decode cX7_yankOther 11 = .ok (.aload_n 0, 1) := by decide +kernel
theorem dX7_yankOther_12 : decode cX7_yankOther 12 = .ok (.aload_n 0, 1) := by decide +kernel
theorem dX7_yankOther_13 : decode cX7_yankOther 13 = .ok (.getfield 10, 3) := by decide +kernel
theorem dX7_yankOther_16 : decode cX7_yankOther 16 = .ok (.invokevirtual 132, 3) := by decide +kernel
theorem dX7_yankOther_19 : decode cX7_yankOther 19 = .ok (.invokevirtual 55, 3) := by decide +kernel
theorem dX7_yankOther_22 : decode cX7_yankOther 22 = .ok (.ireturn, 1) := by decide +kernel
theorem dX7_turn_0 : decode cX7_turn 0 = .ok (.iload_n 1, 1) := by decide +kernel
theorem dX7_turn_1 : decode cX7_turn 1 = .ok (.bipush (-20), 2) := by decide +kernel
theorem dX7_turn_3 : decode cX7_turn 3 = .ok (.if_icmp .lt 9, 3) := by decide +kernel
theorem dX7_turn_6 : decode cX7_turn 6 = .ok (.iload_n 1, 1) := by decide +kernel
theorem dX7_turn_7 : decode cX7_turn 7 = .ok (.bipush 20, 2) := by decide +kernel
theorem dX7_turn_9 : decode cX7_turn 9 = .ok (.if_icmp .le 13, 3) := by decide +kernel
theorem dX7_turn_12 : decode cX7_turn 12 = .ok (.new 40, 3) := by decide +kernel
theorem dX7_turn_15 : decode cX7_turn 15 = .ok (.dup, 1) := by decide +kernel
theorem dX7_turn_16 : decode cX7_turn 16 = .ok (.ldc 135, 2) := by decide +kernel
theorem dX7_turn_18 : decode cX7_turn 18 = .ok (.invokespecial 44, 3) := by decide +kernel
theorem dX7_turn_21 : decode cX7_turn 21 = .ok (.athrow, 1) := by decide +kernel
theorem dX7_turn_22 : decode cX7_turn 22 = .ok (.aload_n 0, 1) := by decide +kernel
theorem dX7_turn_23 : decode cX7_turn 23 = .ok (.getfield 19, 3) := by decide +kernel
theorem dX7_turn_26 : decode cX7_turn 26 = .ok (.aload_n 0, 1) := by decide +kernel
theorem dX7_turn_27 : decode cX7_turn 27 = .ok (.getfield 10, 3) := by decide +kernel
theorem dX7_turn_30 : decode cX7_turn 30 = .ok (.invokevirtual 47, 3) := by decide +kernel
theorem dX7_turn_33 : decode cX7_turn 33 = .ok (.aload_n 0, 1) := by decide +kernel
theorem dX7_turn_34 : decode cX7_turn 34 = .ok (.aload_n 0, 1) := by decide +kernel
theorem dX7_turn_35 : decode cX7_turn 35 = .ok (.getfield 10, 3) := by decide +kernel
theorem dX7_turn_38 : decode cX7_turn 38 = .ok (.iload_n 1, 1) := by decide +kernel
theorem dX7_turn_39 : decode cX7_turn 39 = .ok (.invokevirtual 137, 3) := by decide +kernel
theorem dX7_turn_42 : decode cX7_turn 42 = .ok (.invokevirtual 55, 3) := by decide +kernel
theorem dX7_turn_45 : decode cX7_turn 45 = .ok (.ireturn, 1) := by decide +kernel
theorem dX7_changeCaves_0 : decode cX7_changeCaves 0 = .ok (.iload_n 1, 1) := by decide +kernel
theorem dX7_changeCaves_1 : decode cX7_changeCaves 1 = .ok (.iconst 1, 1) := by decide +kernel
theorem dX7_changeCaves_2 : decode cX7_changeCaves 2 = .ok (.if_icmp .lt 9, 3) := by decide +kernel
theorem dX7_changeCaves_5 : decode cX7_changeCaves 5 = .ok (.iload_n 1, 1) := by decide +kernel
theorem dX7_changeCaves_6 : decode cX7_changeCaves 6 = .ok (.bipush 8, 2) := by decide +kernel
theorem dX7_changeCaves_8 : decode cX7_changeCaves 8 = .ok (.if_icmp .le 13, 3) := by decide +kernel
theorem dX7_changeCaves_11 : decode cX7_changeCaves 11 = .ok (.new 40, 3) := by decide +kernel
theorem dX7_changeCaves_14 : decode cX7_changeCaves 14 = .ok (.dup, 1) := by decide +kernel
theorem dX7_changeCaves_15 : decode cX7_changeCaves 15 = .ok (.ldc 140, 2) := by decide +kernel
theorem dX7_changeCaves_17 : decode cX7_changeCaves 17 = .ok (.invokespecial 44, 3) := by decide +kernel
theorem dX7_changeCaves_20 : decode cX7_changeCaves 20 = .ok (.athrow, 1) := by decide +kernel
theorem dX7_changeCaves_21 : decode cX7_changeCaves 21 = .ok (.aload_n 0, 1) := by decide +kernel
theorem dX7_changeCaves_22 : decode cX7_changeCaves 22 = .ok (.getfield 19, 3) := by decide +kernel
theorem dX7_changeCaves_25 : decode cX7_changeCaves 25 = .ok (.aload_n 0, 1) := by decide +kernel
theorem dX7_changeCaves_26 : decode cX7_changeCaves 26 = .ok (.getfield 10, 3) := by decide +kernel
theorem dX7_changeCaves_29 : decode cX7_changeCaves 29 = .ok (.invokevirtual 47, 3) := by decide +kernel
theorem dX7_changeCaves_32 : decode cX7_changeCaves 32 = .ok (.aload_n 0, 1) := by decide +kernel
theorem dX7_changeCaves_33 : decode cX7_changeCaves 33 = .ok (.aload_n 0, 1) := by decide +kernel
theorem dX7_changeCaves_34 : decode cX7_changeCaves 34 = .ok (.getfield 10, 3) := by decide +kernel
theorem dX7_changeCaves_37 : decode cX7_changeCaves 37 = .ok (.iload_n 1, 1) := by decide +kernel
theorem dX7_changeCaves_38 : decode cX7_changeCaves 38 = .ok (.invokevirtual 142, 3) := by decide +kernel
theorem dX7_changeCaves_41 : decode cX7_changeCaves 41 = .ok (.invokevirtual 55, 3) := by decide +kernel
theorem dX7_changeCaves_44 : decode cX7_changeCaves 44 = .ok (.ireturn, 1) := by decide +kernel
theorem dX7_append_0 : decode cX7_append 0 = .ok (.iload_n 1, 1) := by decide +kernel
theorem dX7_append_1 : decode cX7_append 1 = .ok (.bipush 32, 2) := by decide +kernel
theorem dX7_append_3 : decode cX7_append 3 = .ok (.if_icmp .le 9, 3) := by decide +kernel
theorem dX7_append_6 : decode cX7_append 6 = .ok (.iload_n 1, 1) := by decide +kernel
theorem dX7_append_7 : decode cX7_append 7 = .ok (.bipush 126, 2) := by decide +kernel
theorem dX7_append_9 : decode cX7_append 9 = .ok (.if_icmp .le 13, 3) := by decide +kernel
theorem dX7_append_12 : decode cX7_append 12 = .ok (.new 40, 3) := by decide +kernel
theorem dX7_append_15 : decode cX7_append 15 = .ok (.dup, 1) := by decide +kernel
theorem dX7_append_16 : decode cX7_append 16 = .ok (.ldc 42, 2) := by decide +kernel
theorem dX7_append_18 : decode cX7_append 18 = .ok (.invokespecial 44, 3) := by decide +kernel
theorem dX7_append_21 : decode cX7_append 21 = .ok (.athrow, 1) := by decide +kernel
theorem dX7_append_22 : decode cX7_append 22 = .ok (.aload_n 0, 1) := by decide +kernel
theorem dX7_append_23 : decode cX7_append 23 = .ok (.getfield 36, 3) := by decide +kernel
theorem dX7_append_26 : decode cX7_append 26 = .ok (.invokevirtual 145, 3) := by decide +kernel
theorem dX7_append_29 : decode cX7_append 29 = .ok (.ifCond .ne 13, 3) := by decide +kernel
theorem dX7_append_32 : decode cX7_append 32 = .ok (.new 148, 3) := by decide +kernel
theorem dX7_append_35 : decode cX7_append 35 = .ok (.dup, 1) := by decide +kernel
theorem dX7_append_36 : decode cX7_append 36 = .ok (.ldc 150, 2) := by decide +kernel
theorem dX7_append_38 : decode cX7_append 38 = .ok (.invokespecial 152, 3) := by decide +kernel
theorem dX7_append_41 : decode cX7_append 41 = .ok (.athrow, 1) := by decide +kernel
theorem dX7_append_42 : decode cX7_append 42 = .ok (.aload_n 0, 1) := by decide +kernel
theorem dX7_append_43 : decode cX7_append 43 = .ok (.getfield 36, 3) := by decide +kernel
theorem dX7_append_46 : decode cX7_append 46 = .ok (.aload_n 0, 1) := by decide +kernel
theorem dX7_append_47 : decode cX7_append 47 = .ok (.getfield 36, 3) := by decide +kernel
theorem dX7_append_50 : decode cX7_append 50 = .ok (.invokevirtual 77, 3) := by decide +kernel
theorem dX7_append_53 : decode cX7_append 53 = .ok (.iload_n 1, 1) := by decide +kernel
theorem dX7_append_54 : decode cX7_append 54 = .ok (.invokevirtual 153, 3) := by decide +kernel
theorem dX7_append_57 : decode cX7_append 57 = .ok (.aload_n 0, 1) := by decide +kernel
theorem dX7_append_58 : decode cX7_append 58 = .ok (.getfield 36, 3) := by decide +kernel
theorem dX7_append_61 : decode cX7_append 61 = .ok (.invokevirtual 77, 3) := by decide +kernel
theorem dX7_append_64 : decode cX7_append 64 = .ok (.ireturn, 1) := by decide +kernel
theorem dX7_clearBuffer_0 : decode cX7_clearBuffer 0 = .ok (.aload_n 0, 1) := by decide +kernel
theorem dX7_clearBuffer_1 : decode cX7_clearBuffer 1 = .ok (.getfield 36, 3) := by decide +kernel
theorem dX7_clearBuffer_4 : decode cX7_clearBuffer 4 = .ok (.invokevirtual 77, 3) := by decide +kernel
theorem dX7_clearBuffer_7 : decode cX7_clearBuffer 7 = .ok (.istore_n 1, 1) := by decide +kernel
theorem dX7_clearBuffer_8 : decode cX7_clearBuffer 8 = .ok (.aload_n 0, 1) := by decide +kernel
theorem dX7_clearBuffer_9 : decode cX7_clearBuffer 9 = .ok (.getfield 36, 3) := by decide +kernel
theorem dX7_clearBuffer_12 : decode cX7_clearBuffer 12 = .ok (.invokevirtual 157, 3) := by decide +kernel
theorem dX7_clearBuffer_15 : decode cX7_clearBuffer 15 = .ok (.iload_n 1, 1) := by decide +kernel
theorem dX7_clearBuffer_16 : decode cX7_clearBuffer 16 = .ok (.ireturn, 1) := by decide +kernel
theorem dX7_perform_0 : decode cX7_perform 0 = .ok (.aload_n 0, 1) := by decide +kernel
theorem dX7_perform_1 : decode cX7_perform 1 = .ok (.invokevirtual 167, 3) := by decide +kernel
theorem dX7_perform_4 : decode cX7_perform 4 = .ok (.ifCond .ne 13, 3) := by decide +kernel
theorem dX7_perform_7 : decode cX7_perform 7 = .ok (.new 40, 3) := by decide +kernel
theorem dX7_perform_10 : decode cX7_perform 10 = .ok (.dup, 1) := by decide +kernel
theorem dX7_perform_11 : decode cX7_perform 11 = .ok (.ldc 171, 2) := by decide +kernel
theorem dX7_perform_13 : decode cX7_perform 13 = .ok (.invokespecial 44, 3) := by decide +kernel
theorem dX7_perform_16 : decode cX7_perform 16 = .ok (.athrow, 1) := by decide +kernel
theorem dX7_perform_17 : decode cX7_perform 17 = .ok (.aload_n 0, 1) := by decide +kernel
theorem dX7_perform_18 : decode cX7_perform 18 = .ok (.getfield 19, 3) := by decide +kernel
theorem dX7_perform_21 : decode cX7_perform 21 = .ok (.aload_n 0, 1) := by decide +kernel
theorem dX7_perform_22 : decode cX7_perform 22 = .ok (.getfield 10, 3) := by decide +kernel
theorem dX7_perform_25 : decode cX7_perform 25 = .ok (.invokevirtual 47, 3) := by decide +kernel
theorem dX7_perform_28 : decode cX7_perform 28 = .ok (.aload_n 0, 1) := by decide +kernel
theorem dX7_perform_29 : decode cX7_perform 29 = .ok (.invokevirtual 173, 3) := by decide +kernel
theorem dX7_perform_32 : decode cX7_perform 32 = .ok (.istore_n 1, 1) := by decide +kernel
theorem dX7_perform_33 : decode cX7_perform 33 = .ok (.iload_n 1, 1) := by decide +kernel
theorem dX7_perform_34 : decode cX7_perform 34 = .ok (.iconst (-1), 1) := by decide +kernel
theorem dX7_perform_35 : decode cX7_perform 35 = .ok (.if_icmp .ne 17, 3) := by decide +kernel
theorem dX7_perform_38 : decode cX7_perform 38 = .ok (.aload_n 0, 1) := by decide +kernel
theorem dX7_perform_39 : decode cX7_perform 39 = .ok (.getfield 10, 3) := by decide +kernel
theorem dX7_perform_42 : decode cX7_perform 42 = .ok (.aload_n 0, 1) := by decide +kernel
theorem dX7_perform_43 : decode cX7_perform 43 = .ok (.getfield 19, 3) := by decide +kernel
theorem dX7_perform_46 : decode cX7_perform 46 = .ok (.invokevirtual 176, 3) := by decide +kernel
theorem dX7_perform_49 : decode cX7_perform 49 = .ok (.invokevirtual 180, 3) := by decide +kernel
theorem dX7_perform_52 : decode cX7_perform 52 = .ok (.aload_n 0, 1) := by decide +kernel
theorem dX7_perform_53 : decode cX7_perform 53 = .ok (.iload_n 1, 1) := by decide +kernel
theorem dX7_perform_54 : decode cX7_perform 54 = .ok (.invokevirtual 55, 3) := by decide +kernel
theorem dX7_perform_57 : decode cX7_perform 57 = .ok (.pop, 1) := by decide +kernel
theorem dX7_perform_58 : decode cX7_perform 58 = .ok (.aload_n 0, 1) := by decide +kernel
theorem dX7_perform_59 : decode cX7_perform 59 = .ok (.getfield 36, 3) := by decide +kernel
theorem dX7_perform_62 : decode cX7_perform 62 = .ok (.invokevirtual 157, 3) := by decide +kernel
theorem dX7_perform_65 : decode cX7_perform 65 = .ok (.iload_n 1, 1) := by decide +kernel
theorem dX7_perform_66 : decode cX7_perform 66 = .ok (.ireturn, 1) := by decide +kernel
theorem dX7_keep_0 : decode cX7_keep 0 = .ok (.iload_n 1, 1) := by decide +kernel
theorem dX7_keep_1 : decode cX7_keep 1 = .ok (.ifCond .lt 8, 3) := by decide +kernel
theorem dX7_keep_4 : decode cX7_keep 4 = .ok (.iload_n 1, 1) := by decide +kernel
theorem dX7_keep_5 : decode cX7_keep 5 = .ok (.iconst 2, 1) := by decide +kernel
theorem dX7_keep_6 : decode cX7_keep 6 = .ok (.if_icmp .lt 13, 3) := by decide +kernel
theorem dX7_keep_9 : decode cX7_keep 9 = .ok (.new 40, 3) := by decide +kernel
theorem dX7_keep_12 : decode cX7_keep 12 = .ok (.dup, 1) := by decide +kernel
theorem dX7_keep_13 : decode cX7_keep 13 = .ok (.ldc 183, 2) := by decide +kernel
theorem dX7_keep_15 : decode cX7_keep 15 = .ok (.invokespecial 44, 3) := by decide +kernel
theorem dX7_keep_18 : decode cX7_keep 18 = .ok (.athrow, 1) := by decide +kernel
theorem dX7_keep_19 : decode cX7_keep 19 = .ok (.aload_n 0, 1) := by decide +kernel
theorem dX7_keep_20 : decode cX7_keep 20 = .ok (.getfield 23, 3) := by decide +kernel
theorem dX7_keep_23 : decode cX7_keep 23 = .ok (.iload_n 1, 1) := by decide +kernel
theorem dX7_keep_24 : decode cX7_keep 24 = .ok (.aaload, 1) := by decide +kernel
theorem dX7_keep_25 : decode cX7_keep 25 = .ok (.aload_n 0, 1) := by decide +kernel
theorem dX7_keep_26 : decode cX7_keep 26 = .ok (.getfield 10, 3) := by decide +kernel
theorem dX7_keep_29 : decode cX7_keep 29 = .ok (.invokevirtual 180, 3) := by decide +kernel
theorem dX7_keep_32 : decode cX7_keep 32 = .ok (.aload_n 0, 1) := by decide +kernel
theorem dX7_keep_33 : decode cX7_keep 33 = .ok (.getfield 27, 3) := by decide +kernel
theorem dX7_keep_36 : decode cX7_keep 36 = .ok (.iload_n 1, 1) := by decide +kernel
theorem dX7_keep_37 : decode cX7_keep 37 = .ok (.iconst 1, 1) := by decide +kernel
theorem dX7_keep_38 : decode cX7_keep 38 = .ok (.bastore, 1) := by decide +kernel
theorem dX7_keep_39 : decode cX7_keep 39 = .ok (.return_, 1) := by decide +kernel
theorem dX7_goBack_0 : decode cX7_goBack 0 = .ok (.iload_n 1, 1) := by decide +kernel
theorem dX7_goBack_1 : decode cX7_goBack 1 = .ok (.ifCond .lt 8, 3) := by decide +kernel
theorem dX7_goBack_4 : decode cX7_goBack 4 = .ok (.iload_n 1, 1) := by decide +kernel
theorem dX7_goBack_5 : decode cX7_goBack 5 = .ok (.iconst 2, 1) := by decide +kernel
theorem dX7_goBack_6 : decode cX7_goBack 6 = .ok (.if_icmp .lt 13, 3) := by decide +kernel
theorem dX7_goBack_9 : decode cX7_goBack 9 = .ok (.new 40, 3) := by decide +kernel
theorem dX7_goBack_12 : decode cX7_goBack 12 = .ok (.dup, 1) := by decide +kernel
theorem dX7_goBack_13 : decode cX7_goBack 13 = .ok (.ldc 183, 2) := by decide +kernel
theorem dX7_goBack_15 : decode cX7_goBack 15 = .ok (.invokespecial 44, 3) := by decide +kernel
theorem dX7_goBack_18 : decode cX7_goBack 18 = .ok (.athrow, 1) := by decide +kernel
theorem dX7_goBack_19 : decode cX7_goBack 19 = .ok (.aload_n 0, 1) := by decide +kernel
theorem dX7_goBack_20 : decode cX7_goBack 20 = .ok (.getfield 27, 3) := by decide +kernel
theorem dX7_goBack_23 : decode cX7_goBack 23 = .ok (.iload_n 1, 1) := by decide +kernel
theorem dX7_goBack_24 : decode cX7_goBack 24 = .ok (.baload, 1) := by decide +kernel
theorem dX7_goBack_25 : decode cX7_goBack 25 = .ok (.ifCond .ne 13, 3) := by decide +kernel
theorem dX7_goBack_28 : decode cX7_goBack 28 = .ok (.new 148, 3) := by decide +kernel
theorem dX7_goBack_31 : decode cX7_goBack 31 = .ok (.dup, 1) := by decide +kernel
theorem dX7_goBack_32 : decode cX7_goBack 32 = .ok (.ldc 185, 2) := by decide +kernel
theorem dX7_goBack_34 : decode cX7_goBack 34 = .ok (.invokespecial 152, 3) := by decide +kernel
theorem dX7_goBack_37 : decode cX7_goBack 37 = .ok (.athrow, 1) := by decide +kernel
theorem dX7_goBack_38 : decode cX7_goBack 38 = .ok (.aload_n 0, 1) := by decide +kernel
theorem dX7_goBack_39 : decode cX7_goBack 39 = .ok (.getfield 19, 3) := by decide +kernel
theorem dX7_goBack_42 : decode cX7_goBack 42 = .ok (.aload_n 0, 1) := by decide +kernel
theorem dX7_goBack_43 : decode cX7_goBack 43 = .ok (.getfield 10, 3) := by decide +kernel
theorem dX7_goBack_46 : decode cX7_goBack 46 = .ok (.invokevirtual 47, 3) := by decide +kernel
theorem dX7_goBack_49 : decode cX7_goBack 49 = .ok (.aload_n 0, 1) := by decide +kernel
theorem dX7_goBack_50 : decode cX7_goBack 50 = .ok (.getfield 19, 3) := by decide +kernel
theorem dX7_goBack_53 : decode cX7_goBack 53 = .ok (.invokevirtual 187, 3) := by decide +kernel
theorem dX7_goBack_56 : decode cX7_goBack 56 = .ok (.aload_n 0, 1) := by decide +kernel
theorem dX7_goBack_57 : decode cX7_goBack 57 = .ok (.getfield 10, 3) := by decide +kernel
theorem dX7_goBack_60 : decode cX7_goBack 60 = .ok (.aload_n 0, 1) := by decide +kernel
theorem dX7_goBack_61 : decode cX7_goBack 61 = .ok (.getfield 23, 3) := by decide +kernel
theorem dX7_goBack_64 : decode cX7_goBack 64 = .ok (.iload_n 1, 1) := by decide +kernel
theorem dX7_goBack_65 : decode cX7_goBack 65 = .ok (.aaload, 1) := by decide +kernel
theorem dX7_goBack_66 : decode cX7_goBack 66 = .ok (.invokevirtual 190, 3) := by decide +kernel
theorem dX7_goBack_69 : decode cX7_goBack 69 = .ok (.return_, 1) := by decide +kernel
theorem dX7_undo_0 : decode cX7_undo 0 = .ok (.aload_n 0, 1) := by decide +kernel
theorem dX7_undo_1 : decode cX7_undo 1 = .ok (.getfield 19, 3) := by decide +kernel
theorem dX7_undo_4 : decode cX7_undo 4 = .ok (.invokevirtual 193, 3) := by decide +kernel
theorem dX7_undo_7 : decode cX7_undo 7 = .ok (.ifCond .ne 13, 3) := by decide +kernel
theorem dX7_undo_10 : decode cX7_undo 10 = .ok (.new 148, 3) := by decide +kernel
theorem dX7_undo_13 : decode cX7_undo 13 = .ok (.dup, 1) := by decide +kernel
theorem dX7_undo_14 : decode cX7_undo 14 = .ok (.ldc 194, 2) := by decide +kernel
theorem dX7_undo_16 : decode cX7_undo 16 = .ok (.invokespecial 152, 3) := by decide +kernel
theorem dX7_undo_19 : decode cX7_undo 19 = .ok (.athrow, 1) := by decide +kernel
theorem dX7_undo_20 : decode cX7_undo 20 = .ok (.aload_n 0, 1) := by decide +kernel
theorem dX7_undo_21 : decode cX7_undo 21 = .ok (.getfield 10, 3) := by decide +kernel
theorem dX7_undo_24 : decode cX7_undo 24 = .ok (.aload_n 0, 1) := by decide +kernel
theorem dX7_undo_25 : decode cX7_undo 25 = .ok (.getfield 19, 3) := by decide +kernel
theorem dX7_undo_28 : decode cX7_undo 28 = .ok (.invokevirtual 196, 3) := by decide +kernel
theorem dX7_undo_31 : decode cX7_undo 31 = .ok (.invokevirtual 190, 3) := by decide +kernel
theorem dX7_undo_34 : decode cX7_undo 34 = .ok (.aload_n 0, 1) := by decide +kernel
theorem dX7_undo_35 : decode cX7_undo 35 = .ok (.getfield 19, 3) := by decide +kernel
theorem dX7_undo_38 : decode cX7_undo 38 = .ok (.invokevirtual 199, 3) := by decide +kernel
theorem dX7_undo_41 : decode cX7_undo 41 = .ok (.return_, 1) := by decide +kernel
theorem dX7_savedStates_0 : decode cX7_savedStates 0 = .ok (.aload_n 0, 1) := by decide +kernel
theorem dX7_savedStates_1 : decode cX7_savedStates 1 = .ok (.getfield 19, 3) := by decide +kernel
theorem dX7_savedStates_4 : decode cX7_savedStates 4 = .ok (.invokevirtual 193, 3) := by decide +kernel
theorem dX7_savedStates_7 : decode cX7_savedStates 7 = .ok (.ireturn, 1) := by decide +kernel
theorem dX7_length_0 : decode cX7_length 0 = .ok (.aload_n 0, 1) := by decide +kernel
theorem dX7_length_1 : decode cX7_length 1 = .ok (.getfield 10, 3) := by decide +kernel
theorem dX7_length_4 : decode cX7_length 4 = .ok (.getfield 68, 3) := by decide +kernel
theorem dX7_length_7 : decode cX7_length 7 = .ok (.getfield 72, 3) := by decide +kernel
theorem dX7_length_10 : decode cX7_length 10 = .ok (.invokevirtual 77, 3) := by decide +kernel
theorem dX7_length_13 : decode cX7_length 13 = .ok (.ireturn, 1) := by decide +kernel
theorem dX7_codeAt_0 : decode cX7_codeAt 0 = .ok (.aload_n 0, 1) := by decide +kernel
theorem dX7_codeAt_1 : decode cX7_codeAt 1 = .ok (.getfield 10, 3) := by decide +kernel
theorem dX7_codeAt_4 : decode cX7_codeAt 4 = .ok (.getfield 68, 3) := by decide +kernel
theorem dX7_codeAt_7 : decode cX7_codeAt 7 = .ok (.getfield 72, 3) := by decide +kernel
theorem dX7_codeAt_10 : decode cX7_codeAt 10 = .ok (.iload_n 1, 1) := by decide +kernel
theorem dX7_codeAt_11 : decode cX7_codeAt 11 = .ok (.invokevirtual 160, 3) := by decide +kernel
theorem dX7_codeAt_14 : decode cX7_codeAt 14 = .ok (.invokestatic 202, 3) := by decide +kernel
theorem dX7_codeAt_17 : decode cX7_codeAt 17 = .ok (.ireturn, 1) := by decide +kernel
theorem dX7_point_0 : decode cX7_point 0 = .ok (.aload_n 0, 1) := by decide +kernel
theorem dX7_point_1 : decode cX7_point 1 = .ok (.getfield 10, 3) := by decide +kernel
theorem dX7_point_4 : decode cX7_point 4 = .ok (.getfield 68, 3) := by decide +kernel
theorem dX7_point_7 : decode cX7_point 7 = .ok (.getfield 205, 3) := by decide +kernel
theorem dX7_point_10 : decode cX7_point 10 = .ok (.ireturn, 1) := by decide +kernel
theorem dX7_markAt_0 : decode cX7_markAt 0 = .ok (.aload_n 0, 1) := by decide +kernel
theorem dX7_markAt_1 : decode cX7_markAt 1 = .ok (.getfield 10, 3) := by decide +kernel
theorem dX7_markAt_4 : decode cX7_markAt 4 = .ok (.getfield 68, 3) := by decide +kernel
theorem dX7_markAt_7 : decode cX7_markAt 7 = .ok (.getfield 209, 3) := by decide +kernel
theorem dX7_markAt_10 : decode cX7_markAt 10 = .ok (.invokestatic 212, 3) := by decide +kernel
theorem dX7_markAt_13 : decode cX7_markAt 13 = .ok (.ireturn, 1) := by decide +kernel
theorem dX7_between_0 : decode cX7_between 0 = .ok (.aload_n 0, 1) := by decide +kernel
theorem dX7_between_1 : decode cX7_between 1 = .ok (.getfield 10, 3) := by decide +kernel
theorem dX7_between_4 : decode cX7_between 4 = .ok (.getfield 68, 3) := by decide +kernel
theorem dX7_between_7 : decode cX7_between 7 = .ok (.invokevirtual 215, 3) := by decide +kernel
theorem dX7_between_10 : decode cX7_between 10 = .ok (.invokestatic 212, 3) := by decide +kernel
theorem dX7_between_13 : decode cX7_between 13 = .ok (.ireturn, 1) := by decide +kernel
theorem dX7_linesByEnds_0 : decode cX7_linesByEnds 0 = .ok (.aload_n 0, 1) := by decide +kernel
theorem dX7_linesByEnds_1 : decode cX7_linesByEnds 1 = .ok (.getfield 10, 3) := by decide +kernel
theorem dX7_linesByEnds_4 : decode cX7_linesByEnds 4 = .ok (.getfield 68, 3) := by decide +kernel
theorem dX7_linesByEnds_7 : decode cX7_linesByEnds 7 = .ok (.aload_n 0, 1) := by decide +kernel
theorem dX7_linesByEnds_8 : decode cX7_linesByEnds 8 = .ok (.getfield 10, 3) := by decide +kernel
theorem dX7_linesByEnds_11 : decode cX7_linesByEnds 11 = .ok (.getfield 68, 3) := by decide +kernel
theorem dX7_linesByEnds_14 : decode cX7_linesByEnds 14 = .ok (.getfield 72, 3) := by decide +kernel
theorem dX7_linesByEnds_17 : decode cX7_linesByEnds 17 = .ok (.invokevirtual 77, 3) := by decide +kernel
theorem dX7_linesByEnds_20 : decode cX7_linesByEnds 20 = .ok (.invokevirtual 218, 3) := by decide +kernel
theorem dX7_linesByEnds_23 : decode cX7_linesByEnds 23 = .ok (.iconst 1, 1) := by decide +kernel
theorem dX7_linesByEnds_24 : decode cX7_linesByEnds 24 = .ok (.iadd, 1) := by decide +kernel
theorem dX7_linesByEnds_25 : decode cX7_linesByEnds 25 = .ok (.ireturn, 1) := by decide +kernel
theorem dX7_linesByGoing_0 : decode cX7_linesByGoing 0 = .ok (.aload_n 0, 1) := by decide +kernel
theorem dX7_linesByGoing_1 : decode cX7_linesByGoing 1 = .ok (.getfield 10, 3) := by decide +kernel
theorem dX7_linesByGoing_4 : decode cX7_linesByGoing 4 = .ok (.getfield 68, 3) := by decide +kernel
theorem dX7_linesByGoing_7 : decode cX7_linesByGoing 7 = .ok (.invokevirtual 221, 3) := by decide +kernel
theorem dX7_linesByGoing_10 : decode cX7_linesByGoing 10 = .ok (.ireturn, 1) := by decide +kernel
theorem dX7_line_0 : decode cX7_line 0 = .ok (.aload_n 0, 1) := by decide +kernel
theorem dX7_line_1 : decode cX7_line 1 = .ok (.getfield 10, 3) := by decide +kernel
theorem dX7_line_4 : decode cX7_line 4 = .ok (.getfield 68, 3) := by decide +kernel
theorem dX7_line_7 : decode cX7_line 7 = .ok (.aload_n 0, 1) := by decide +kernel
theorem dX7_line_8 : decode cX7_line 8 = .ok (.getfield 10, 3) := by decide +kernel
theorem dX7_line_11 : decode cX7_line 11 = .ok (.getfield 68, 3) := by decide +kernel
theorem dX7_line_14 : decode cX7_line 14 = .ok (.getfield 205, 3) := by decide +kernel
theorem dX7_line_17 : decode cX7_line 17 = .ok (.invokevirtual 218, 3) := by decide +kernel
theorem dX7_line_20 : decode cX7_line 20 = .ok (.ireturn, 1) := by decide +kernel
theorem dX7_column_0 : decode cX7_column 0 = .ok (.aload_n 0, 1) := by decide +kernel
theorem dX7_column_1 : decode cX7_column 1 = .ok (.getfield 10, 3) := by decide +kernel
theorem dX7_column_4 : decode cX7_column 4 = .ok (.getfield 68, 3) := by decide +kernel
theorem dX7_column_7 : decode cX7_column 7 = .ok (.getfield 205, 3) := by decide +kernel
theorem dX7_column_10 : decode cX7_column 10 = .ok (.aload_n 0, 1) := by decide +kernel
theorem dX7_column_11 : decode cX7_column 11 = .ok (.getfield 10, 3) := by decide +kernel
theorem dX7_column_14 : decode cX7_column 14 = .ok (.getfield 68, 3) := by decide +kernel
theorem dX7_column_17 : decode cX7_column 17 = .ok (.aload_n 0, 1) := by decide +kernel
theorem dX7_column_18 : decode cX7_column 18 = .ok (.getfield 10, 3) := by decide +kernel
theorem dX7_column_21 : decode cX7_column 21 = .ok (.getfield 68, 3) := by decide +kernel
theorem dX7_column_24 : decode cX7_column 24 = .ok (.getfield 205, 3) := by decide +kernel
theorem dX7_column_27 : decode cX7_column 27 = .ok (.invokevirtual 224, 3) := by decide +kernel
theorem dX7_column_30 : decode cX7_column 30 = .ok (.isub, 1) := by decide +kernel
theorem dX7_column_31 : decode cX7_column 31 = .ok (.ireturn, 1) := by decide +kernel
theorem dX7_longestLine_0 : decode cX7_longestLine 0 = .ok (.aload_n 0, 1) := by decide +kernel
theorem dX7_longestLine_1 : decode cX7_longestLine 1 = .ok (.getfield 10, 3) := by decide +kernel
theorem dX7_longestLine_4 : decode cX7_longestLine 4 = .ok (.getfield 68, 3) := by decide +kernel
theorem dX7_longestLine_7 : decode cX7_longestLine 7 = .ok (.invokevirtual 227, 3) := by decide +kernel
theorem dX7_longestLine_10 : decode cX7_longestLine 10 = .ok (.ireturn, 1) := by decide +kernel
theorem dX7_wordsByBegins_0 : decode cX7_wordsByBegins 0 = .ok (.aload_n 0, 1) := by decide +kernel
theorem dX7_wordsByBegins_1 : decode cX7_wordsByBegins 1 = .ok (.getfield 10, 3) := by decide +kernel
theorem dX7_wordsByBegins_4 : decode cX7_wordsByBegins 4 = .ok (.getfield 68, 3) := by decide +kernel
theorem dX7_wordsByBegins_7 : decode cX7_wordsByBegins 7 = .ok (.invokevirtual 230, 3) := by decide +kernel
theorem dX7_wordsByBegins_10 : decode cX7_wordsByBegins 10 = .ok (.ireturn, 1) := by decide +kernel
theorem dX7_wordsByGoing_0 : decode cX7_wordsByGoing 0 = .ok (.aload_n 0, 1) := by decide +kernel
theorem dX7_wordsByGoing_1 : decode cX7_wordsByGoing 1 = .ok (.getfield 10, 3) := by decide +kernel
theorem dX7_wordsByGoing_4 : decode cX7_wordsByGoing 4 = .ok (.getfield 68, 3) := by decide +kernel
theorem dX7_wordsByGoing_7 : decode cX7_wordsByGoing 7 = .ok (.invokevirtual 233, 3) := by decide +kernel
theorem dX7_wordsByGoing_10 : decode cX7_wordsByGoing 10 = .ok (.ireturn, 1) := by decide +kernel
theorem dX7_hoards_0 : decode cX7_hoards 0 = .ok (.aload_n 0, 1) := by decide +kernel
theorem dX7_hoards_1 : decode cX7_hoards 1 = .ok (.getfield 10, 3) := by decide +kernel
theorem dX7_hoards_4 : decode cX7_hoards 4 = .ok (.getfield 236, 3) := by decide +kernel
theorem dX7_hoards_7 : decode cX7_hoards 7 = .ok (.getfield 240, 3) := by decide +kernel
theorem dX7_hoards_10 : decode cX7_hoards 10 = .ok (.ireturn, 1) := by decide +kernel
theorem dX7_caves_0 : decode cX7_caves 0 = .ok (.aload_n 0, 1) := by decide +kernel
theorem dX7_caves_1 : decode cX7_caves 1 = .ok (.getfield 10, 3) := by decide +kernel
theorem dX7_caves_4 : decode cX7_caves 4 = .ok (.getfield 236, 3) := by decide +kernel
theorem dX7_caves_7 : decode cX7_caves 7 = .ok (.getfield 244, 3) := by decide +kernel
theorem dX7_caves_10 : decode cX7_caves 10 = .ok (.ireturn, 1) := by decide +kernel
theorem dX7_lengthOf_0 : decode cX7_lengthOf 0 = .ok (.aload_n 0, 1) := by decide +kernel
theorem dX7_lengthOf_1 : decode cX7_lengthOf 1 = .ok (.getfield 10, 3) := by decide +kernel
theorem dX7_lengthOf_4 : decode cX7_lengthOf 4 = .ok (.getfield 236, 3) := by decide +kernel
theorem dX7_lengthOf_7 : decode cX7_lengthOf 7 = .ok (.iload_n 1, 1) := by decide +kernel
theorem dX7_lengthOf_8 : decode cX7_lengthOf 8 = .ok (.invokevirtual 247, 3) := by decide +kernel
theorem dX7_lengthOf_11 : decode cX7_lengthOf 11 = .ok (.invokestatic 202, 3) := by decide +kernel
theorem dX7_lengthOf_14 : decode cX7_lengthOf 14 = .ok (.ireturn, 1) := by decide +kernel
theorem dX7_codeIn_0 : decode cX7_codeIn 0 = .ok (.aload_n 0, 1) := by decide +kernel
theorem dX7_codeIn_1 : decode cX7_codeIn 1 = .ok (.getfield 10, 3) := by decide +kernel
theorem dX7_codeIn_4 : decode cX7_codeIn 4 = .ok (.getfield 236, 3) := by decide +kernel
theorem dX7_codeIn_7 : decode cX7_codeIn 7 = .ok (.iload_n 1, 1) := by decide +kernel
theorem dX7_codeIn_8 : decode cX7_codeIn 8 = .ok (.invokevirtual 250, 3) := by decide +kernel
theorem dX7_codeIn_11 : decode cX7_codeIn 11 = .ok (.iload_n 2, 1) := by decide +kernel
theorem dX7_codeIn_12 : decode cX7_codeIn 12 = .ok (.invokevirtual 160, 3) := by decide +kernel
theorem dX7_codeIn_15 : decode cX7_codeIn 15 = .ok (.invokestatic 202, 3) := by decide +kernel
theorem dX7_codeIn_18 : decode cX7_codeIn 18 = .ok (.ireturn, 1) := by decide +kernel
theorem dX7_nextHoard_0 : decode cX7_nextHoard 0 = .ok (.aload_n 0, 1) := by decide +kernel
theorem dX7_nextHoard_1 : decode cX7_nextHoard 1 = .ok (.getfield 10, 3) := by decide +kernel
theorem dX7_nextHoard_4 : decode cX7_nextHoard 4 = .ok (.getfield 236, 3) := by decide +kernel
theorem dX7_nextHoard_7 : decode cX7_nextHoard 7 = .ok (.getfield 254, 3) := by decide +kernel
theorem dX7_nextHoard_10 : decode cX7_nextHoard 10 = .ok (.invokestatic 212, 3) := by decide +kernel
theorem dX7_nextHoard_13 : decode cX7_nextHoard 13 = .ok (.ireturn, 1) := by decide +kernel
theorem dX7_isGrowing_0 : decode cX7_isGrowing 0 = .ok (.aload_n 0, 1) := by decide +kernel
theorem dX7_isGrowing_1 : decode cX7_isGrowing 1 = .ok (.getfield 10, 3) := by decide +kernel
theorem dX7_isGrowing_4 : decode cX7_isGrowing 4 = .ok (.getfield 257, 3) := by decide +kernel
theorem dX7_isGrowing_7 : decode cX7_isGrowing 7 = .ok (.iconst 1, 1) := by decide +kernel
theorem dX7_isGrowing_8 : decode cX7_isGrowing 8 = .ok (.if_icmp .ne 7, 3) := by decide +kernel
theorem dX7_isGrowing_11 : decode cX7_isGrowing 11 = .ok (.iconst 1, 1) := by decide +kernel
theorem dX7_isGrowing_12 : decode cX7_isGrowing 12 = .ok (.goto 4, 3) := by decide +kernel
theorem dX7_isGrowing_15 : decode cX7_isGrowing 15 = .ok (.iconst 0, 1) := by decide +kernel
theorem dX7_isGrowing_16 : decode cX7_isGrowing 16 = .ok (.ireturn, 1) := by decide +kernel
theorem dX7_canTurnYank_0 : decode cX7_canTurnYank 0 = .ok (.aload_n 0, 1) := by decide +kernel
theorem dX7_canTurnYank_1 : decode cX7_canTurnYank 1 = .ok (.getfield 10, 3) := by decide +kernel
theorem dX7_canTurnYank_4 : decode cX7_canTurnYank 4 = .ok (.getfield 257, 3) := by decide +kernel
theorem dX7_canTurnYank_7 : decode cX7_canTurnYank 7 = .ok (.iconst 2, 1) := by decide +kernel
theorem dX7_canTurnYank_8 : decode cX7_canTurnYank 8 = .ok (.if_icmp .ne 7, 3) := by decide +kernel
theorem dX7_canTurnYank_11 : decode cX7_canTurnYank 11 = .ok (.iconst 1, 1) := by decide +kernel
theorem dX7_canTurnYank_12 : decode cX7_canTurnYank 12 = .ok (.goto 4, 3) := by decide +kernel
theorem dX7_canTurnYank_15 : decode cX7_canTurnYank 15 = .ok (.iconst 0, 1) := by decide +kernel
theorem dX7_canTurnYank_16 : decode cX7_canTurnYank 16 = .ok (.ireturn, 1) := by decide +kernel
theorem dX7_lengthIfYanked_0 : decode cX7_lengthIfYanked 0 = .ok (.aload_n 0, 1) := by decide +kernel
theorem dX7_lengthIfYanked_1 : decode cX7_lengthIfYanked 1 = .ok (.getfield 10, 3) := by decide +kernel
theorem dX7_lengthIfYanked_4 : decode cX7_lengthIfYanked 4 = .ok (.getfield 68, 3) := by decide +kernel
theorem dX7_lengthIfYanked_7 : decode cX7_lengthIfYanked 7 = .ok (.getfield 72, 3) := by decide +kernel
theorem dX7_lengthIfYanked_10 : decode cX7_lengthIfYanked 10 = .ok (.invokevirtual 77, 3) := by decide +kernel
theorem dX7_lengthIfYanked_13 : decode cX7_lengthIfYanked 13 = .ok (.aload_n 0, 1) := by decide +kernel
theorem dX7_lengthIfYanked_14 : decode cX7_lengthIfYanked 14 = .ok (.getfield 10, 3) := by decide +kernel
theorem dX7_lengthIfYanked_17 : decode cX7_lengthIfYanked 17 = .ok (.getfield 236, 3) := by decide +kernel
theorem dX7_lengthIfYanked_20 : decode cX7_lengthIfYanked 20 = .ok (.iload_n 1, 1) := by decide +kernel
theorem dX7_lengthIfYanked_21 : decode cX7_lengthIfYanked 21 = .ok (.invokevirtual 247, 3) := by decide +kernel
theorem dX7_lengthIfYanked_24 : decode cX7_lengthIfYanked 24 = .ok (.invokestatic 202, 3) := by decide +kernel
theorem dX7_lengthIfYanked_27 : decode cX7_lengthIfYanked 27 = .ok (.iadd, 1) := by decide +kernel
theorem dX7_lengthIfYanked_28 : decode cX7_lengthIfYanked 28 = .ok (.ireturn, 1) := by decide +kernel
theorem dX7_weight_0 : decode cX7_weight 0 = .ok (.aload_n 0, 1) := by decide +kernel
theorem dX7_weight_1 : decode cX7_weight 1 = .ok (.getfield 10, 3) := by decide +kernel
theorem dX7_weight_4 : decode cX7_weight 4 = .ok (.getfield 236, 3) := by decide +kernel
theorem dX7_weight_7 : decode cX7_weight 7 = .ok (.invokevirtual 260, 3) := by decide +kernel
theorem dX7_weight_10 : decode cX7_weight 10 = .ok (.ireturn, 1) := by decide +kernel
theorem dX7_heaviest_0 : decode cX7_heaviest 0 = .ok (.aload_n 0, 1) := by decide +kernel
theorem dX7_heaviest_1 : decode cX7_heaviest 1 = .ok (.getfield 10, 3) := by decide +kernel
theorem dX7_heaviest_4 : decode cX7_heaviest 4 = .ok (.getfield 236, 3) := by decide +kernel
theorem dX7_heaviest_7 : decode cX7_heaviest 7 = .ok (.invokevirtual 263, 3) := by decide +kernel
theorem dX7_heaviest_10 : decode cX7_heaviest 10 = .ok (.invokestatic 212, 3) := by decide +kernel
theorem dX7_heaviest_13 : decode cX7_heaviest 13 = .ok (.ireturn, 1) := by decide +kernel
theorem dX7_killed_0 : decode cX7_killed 0 = .ok (.aload_n 0, 1) := by decide +kernel
theorem dX7_killed_1 : decode cX7_killed 1 = .ok (.getfield 10, 3) := by decide +kernel
theorem dX7_killed_4 : decode cX7_killed 4 = .ok (.getfield 266, 3) := by decide +kernel
theorem dX7_killed_7 : decode cX7_killed 7 = .ok (.getfield 270, 3) := by decide +kernel
theorem dX7_killed_10 : decode cX7_killed 10 = .ok (.ireturn, 1) := by decide +kernel
theorem dX7_yanked_0 : decode cX7_yanked 0 = .ok (.aload_n 0, 1) := by decide +kernel
theorem dX7_yanked_1 : decode cX7_yanked 1 = .ok (.getfield 10, 3) := by decide +kernel
theorem dX7_yanked_4 : decode cX7_yanked 4 = .ok (.getfield 266, 3) := by decide +kernel
theorem dX7_yanked_7 : decode cX7_yanked 7 = .ok (.getfield 275, 3) := by decide +kernel
theorem dX7_yanked_10 : decode cX7_yanked 10 = .ok (.ireturn, 1) := by decide +kernel
theorem dX7_written_0 : decode cX7_written 0 = .ok (.aload_n 0, 1) := by decide +kernel
theorem dX7_written_1 : decode cX7_written 1 = .ok (.getfield 10, 3) := by decide +kernel
theorem dX7_written_4 : decode cX7_written 4 = .ok (.getfield 266, 3) := by decide +kernel
theorem dX7_written_7 : decode cX7_written 7 = .ok (.getfield 278, 3) := by decide +kernel
theorem dX7_written_10 : decode cX7_written 10 = .ok (.aload_n 0, 1) := by decide +kernel
theorem dX7_written_11 : decode cX7_written 11 = .ok (.getfield 10, 3) := by decide +kernel
theorem dX7_written_14 : decode cX7_written 14 = .ok (.getfield 266, 3) := by decide +kernel
theorem dX7_written_17 : decode cX7_written 17 = .ok (.getfield 281, 3) := by decide +kernel
theorem dX7_written_20 : decode cX7_written 20 = .ok (.iadd, 1) := by decide +kernel
theorem dX7_written_21 : decode cX7_written 21 = .ok (.ireturn, 1) := by decide +kernel
theorem dX7_lostHoards_0 : decode cX7_lostHoards 0 = .ok (.aload_n 0, 1) := by decide +kernel
theorem dX7_lostHoards_1 : decode cX7_lostHoards 1 = .ok (.getfield 10, 3) := by decide +kernel
theorem dX7_lostHoards_4 : decode cX7_lostHoards 4 = .ok (.getfield 266, 3) := by decide +kernel
theorem dX7_lostHoards_7 : decode cX7_lostHoards 7 = .ok (.getfield 284, 3) := by decide +kernel
theorem dX7_lostHoards_10 : decode cX7_lostHoards 10 = .ok (.ireturn, 1) := by decide +kernel
theorem dX7_lengthByAccount_0 : decode cX7_lengthByAccount 0 = .ok (.aload_n 0, 1) := by decide +kernel
theorem dX7_lengthByAccount_1 : decode cX7_lengthByAccount 1 = .ok (.getfield 10, 3) := by decide +kernel
theorem dX7_lengthByAccount_4 : decode cX7_lengthByAccount 4 = .ok (.getfield 266, 3) := by decide +kernel
theorem dX7_lengthByAccount_7 : decode cX7_lengthByAccount 7 = .ok (.invokevirtual 287, 3) := by decide +kernel
theorem dX7_lengthByAccount_10 : decode cX7_lengthByAccount 10 = .ok (.ireturn, 1) := by decide +kernel
theorem dX7_settled_0 : decode cX7_settled 0 = .ok (.iload_n 1, 1) := by decide +kernel
theorem dX7_settled_1 : decode cX7_settled 1 = .ok (.invokestatic 212, 3) := by decide +kernel
theorem dX7_settled_4 : decode cX7_settled 4 = .ok (.pop, 1) := by decide +kernel
theorem dX7_settled_5 : decode cX7_settled 5 = .ok (.aload_n 0, 1) := by decide +kernel
theorem dX7_settled_6 : decode cX7_settled 6 = .ok (.getfield 19, 3) := by decide +kernel
theorem dX7_settled_9 : decode cX7_settled 9 = .ok (.invokevirtual 187, 3) := by decide +kernel
theorem dX7_settled_12 : decode cX7_settled 12 = .ok (.iload_n 1, 1) := by decide +kernel
theorem dX7_settled_13 : decode cX7_settled 13 = .ok (.ireturn, 1) := by decide +kernel
theorem dX7_possible_0 : decode cX7_possible 0 = .ok (.iload_n 0, 1) := by decide +kernel
theorem dX7_possible_1 : decode cX7_possible 1 = .ok (.iconst (-1), 1) := by decide +kernel
theorem dX7_possible_2 : decode cX7_possible 2 = .ok (.if_icmp .ne 14, 3) := by decide +kernel
theorem dX7_possible_5 : decode cX7_possible 5 = .ok (.new 148, 3) := by decide +kernel
theorem dX7_possible_8 : decode cX7_possible 8 = .ok (.dup, 1) := by decide +kernel
theorem dX7_possible_9 : decode cX7_possible 9 = .ok (.ldc_w 307, 3) := by decide +kernel
theorem dX7_possible_12 : decode cX7_possible 12 = .ok (.invokespecial 152, 3) := by decide +kernel
theorem dX7_possible_15 : decode cX7_possible 15 = .ok (.athrow, 1) := by decide +kernel
theorem dX7_possible_16 : decode cX7_possible 16 = .ok (.iload_n 0, 1) := by decide +kernel
theorem dX7_possible_17 : decode cX7_possible 17 = .ok (.ireturn, 1) := by decide +kernel
theorem dX7_existing_0 : decode cX7_existing 0 = .ok (.iload_n 0, 1) := by decide +kernel
theorem dX7_existing_1 : decode cX7_existing 1 = .ok (.iconst (-1), 1) := by decide +kernel
theorem dX7_existing_2 : decode cX7_existing 2 = .ok (.if_icmp .ne 14, 3) := by decide +kernel
theorem dX7_existing_5 : decode cX7_existing 5 = .ok (.new 309, 3) := by decide +kernel
theorem dX7_existing_8 : decode cX7_existing 8 = .ok (.dup, 1) := by decide +kernel
theorem dX7_existing_9 : decode cX7_existing 9 = .ok (.ldc_w 311, 3) := by decide +kernel
theorem dX7_existing_12 : decode cX7_existing 12 = .ok (.invokespecial 313, 3) := by decide +kernel
theorem dX7_existing_15 : decode cX7_existing 15 = .ok (.athrow, 1) := by decide +kernel
theorem dX7_existing_16 : decode cX7_existing 16 = .ok (.iload_n 0, 1) := by decide +kernel
theorem dX7_existing_17 : decode cX7_existing 17 = .ok (.ireturn, 1) := by decide +kernel
theorem dX7_stageBehind_0 : decode cX7_stageBehind 0 = .ok (.iload_n 0, 1) := by decide +kernel
theorem dX7_stageBehind_1 : decode cX7_stageBehind 1 = .ok (.iconst (-1), 1) := by decide +kernel
theorem dX7_stageBehind_2 : decode cX7_stageBehind 2 = .ok (.if_icmp .ne 5, 3) := by decide +kernel
theorem dX7_stageBehind_5 : decode cX7_stageBehind 5 = .ok (.iconst (-1), 1) := by decide +kernel
theorem dX7_stageBehind_6 : decode cX7_stageBehind 6 = .ok (.ireturn, 1) := by decide +kernel
theorem dX7_stageBehind_7 : decode cX7_stageBehind 7 = .ok (.iload_n 0, 1) := by decide +kernel
theorem dX7_stageBehind_8 : decode cX7_stageBehind 8 = .ok (.iconst 2, 1) := by decide +kernel
theorem dX7_stageBehind_9 : decode cX7_stageBehind 9 = .ok (.if_icmp .ne 5, 3) := by decide +kernel
theorem dX7_stageBehind_12 : decode cX7_stageBehind 12 = .ok (.iconst 0, 1) := by decide +kernel
theorem dX7_stageBehind_13 : decode cX7_stageBehind 13 = .ok (.ireturn, 1) := by decide +kernel
theorem dX7_stageBehind_14 : decode cX7_stageBehind 14 = .ok (.iload_n 1, 1) := by decide +kernel
theorem dX7_stageBehind_15 : decode cX7_stageBehind 15 = .ok (.bipush 39, 2) := by decide +kernel
theorem dX7_stageBehind_17 : decode cX7_stageBehind 17 = .ok (.if_icmp .ne 5, 3) := by decide +kernel
theorem dX7_stageBehind_20 : decode cX7_stageBehind 20 = .ok (.iconst 2, 1) := by decide +kernel
theorem dX7_stageBehind_21 : decode cX7_stageBehind 21 = .ok (.ireturn, 1) := by decide +kernel
theorem dX7_stageBehind_22 : decode cX7_stageBehind 22 = .ok (.ldc_w 314, 3) := by decide +kernel
theorem dX7_stageBehind_25 : decode cX7_stageBehind 25 = .ok (.iload_n 1, 1) := by decide +kernel
theorem dX7_stageBehind_26 : decode cX7_stageBehind 26 = .ok (.i2c, 1) := by decide +kernel
theorem dX7_stageBehind_27 : decode cX7_stageBehind 27 = .ok (.invokevirtual 316, 3) := by decide +kernel
theorem dX7_stageBehind_30 : decode cX7_stageBehind 30 = .ok (.ifCond .lt 5, 3) := by decide +kernel
theorem dX7_stageBehind_33 : decode cX7_stageBehind 33 = .ok (.iconst 0, 1) := by decide +kernel
theorem dX7_stageBehind_34 : decode cX7_stageBehind 34 = .ok (.ireturn, 1) := by decide +kernel
theorem dX7_stageBehind_35 : decode cX7_stageBehind 35 = .ok (.iload_n 0, 1) := by decide +kernel
theorem dX7_stageBehind_36 : decode cX7_stageBehind 36 = .ok (.ifCond .ne 14, 3) := by decide +kernel
theorem dX7_stageBehind_39 : decode cX7_stageBehind 39 = .ok (.iload_n 1, 1) := by decide +kernel
theorem dX7_stageBehind_40 : decode cX7_stageBehind 40 = .ok (.invokestatic 321, 3) := by decide +kernel
theorem dX7_stageBehind_43 : decode cX7_stageBehind 43 = .ok (.ifCond .eq 7, 3) := by decide +kernel
theorem dX7_stageBehind_46 : decode cX7_stageBehind 46 = .ok (.iconst 1, 1) := by decide +kernel
theorem dX7_stageBehind_47 : decode cX7_stageBehind 47 = .ok (.goto 4, 3) := by decide +kernel
theorem dX7_stageBehind_50 : decode cX7_stageBehind 50 = .ok (.iconst (-1), 1) := by decide +kernel
theorem dX7_stageBehind_51 : decode cX7_stageBehind 51 = .ok (.ireturn, 1) := by decide +kernel
theorem dX7_isNumber_0 : decode cX7_isNumber 0 = .ok (.iload_n 0, 1) := by decide +kernel
theorem dX7_isNumber_1 : decode cX7_isNumber 1 = .ok (.bipush 50, 2) := by decide +kernel
theorem dX7_isNumber_3 : decode cX7_isNumber 3 = .ok (.if_icmp .lt 13, 3) := by decide +kernel
theorem dX7_isNumber_6 : decode cX7_isNumber 6 = .ok (.iload_n 0, 1) := by decide +kernel
theorem dX7_isNumber_7 : decode cX7_isNumber 7 = .ok (.bipush 57, 2) := by decide +kernel
theorem dX7_isNumber_9 : decode cX7_isNumber 9 = .ok (.if_icmp .gt 7, 3) := by decide +kernel
theorem dX7_isNumber_12 : decode cX7_isNumber 12 = .ok (.iconst 1, 1) := by decide +kernel
theorem dX7_isNumber_13 : decode cX7_isNumber 13 = .ok (.goto 4, 3) := by decide +kernel
theorem dX7_isNumber_16 : decode cX7_isNumber 16 = .ok (.iconst 0, 1) := by decide +kernel
theorem dX7_isNumber_17 : decode cX7_isNumber 17 = .ok (.ireturn, 1) := by decide +kernel
theorem dX7_tellsDeeds_0 : decode cX7_tellsDeeds 0 = .ok (.iconst 0, 1) := by decide +kernel
theorem dX7_tellsDeeds_1 : decode cX7_tellsDeeds 1 = .ok (.istore_n 1, 1) := by decide +kernel
theorem dX7_tellsDeeds_2 : decode cX7_tellsDeeds 2 = .ok (.iconst 0, 1) := by decide +kernel
theorem dX7_tellsDeeds_3 : decode cX7_tellsDeeds 3 = .ok (.istore_n 2, 1) := by decide +kernel
theorem dX7_tellsDeeds_4 : decode cX7_tellsDeeds 4 = .ok (.iload_n 2, 1) := by decide +kernel
theorem dX7_tellsDeeds_5 : decode cX7_tellsDeeds 5 = .ok (.aload_n 0, 1) := by decide +kernel
theorem dX7_tellsDeeds_6 : decode cX7_tellsDeeds 6 = .ok (.getfield 36, 3) := by decide +kernel
theorem dX7_tellsDeeds_9 : decode cX7_tellsDeeds 9 = .ok (.invokevirtual 77, 3) := by decide +kernel
theorem dX7_tellsDeeds_12 : decode cX7_tellsDeeds 12 = .ok (.if_icmp .ge 22, 3) := by decide +kernel
theorem dX7_tellsDeeds_15 : decode cX7_tellsDeeds 15 = .ok (.iload_n 1, 1) := by decide +kernel
theorem dX7_tellsDeeds_16 : decode cX7_tellsDeeds 16 = .ok (.aload_n 0, 1) := by decide +kernel
theorem dX7_tellsDeeds_17 : decode cX7_tellsDeeds 17 = .ok (.getfield 36, 3) := by decide +kernel
theorem dX7_tellsDeeds_20 : decode cX7_tellsDeeds 20 = .ok (.iload_n 2, 1) := by decide +kernel
theorem dX7_tellsDeeds_21 : decode cX7_tellsDeeds 21 = .ok (.invokevirtual 160, 3) := by decide +kernel
theorem dX7_tellsDeeds_24 : decode cX7_tellsDeeds 24 = .ok (.invokestatic 163, 3) := by decide +kernel
theorem dX7_tellsDeeds_27 : decode cX7_tellsDeeds 27 = .ok (.istore_n 1, 1) := by decide +kernel
theorem dX7_tellsDeeds_28 : decode cX7_tellsDeeds 28 = .ok (.iinc 2 1, 3) := by decide +kernel
theorem dX7_tellsDeeds_31 : decode cX7_tellsDeeds 31 = .ok (.goto (-27), 3) := by decide +kernel
theorem dX7_tellsDeeds_34 : decode cX7_tellsDeeds 34 = .ok (.aload_n 0, 1) := by decide +kernel
theorem dX7_tellsDeeds_35 : decode cX7_tellsDeeds 35 = .ok (.getfield 36, 3) := by decide +kernel
theorem dX7_tellsDeeds_38 : decode cX7_tellsDeeds 38 = .ok (.invokevirtual 77, 3) := by decide +kernel
theorem dX7_tellsDeeds_41 : decode cX7_tellsDeeds 41 = .ok (.ifCond .le 11, 3) := by decide +kernel
theorem dX7_tellsDeeds_44 : decode cX7_tellsDeeds 44 = .ok (.iload_n 1, 1) := by decide +kernel
theorem dX7_tellsDeeds_45 : decode cX7_tellsDeeds 45 = .ok (.ifCond .ne 7, 3) := by decide +kernel
theorem dX7_tellsDeeds_48 : decode cX7_tellsDeeds 48 = .ok (.iconst 1, 1) := by decide +kernel
theorem dX7_tellsDeeds_49 : decode cX7_tellsDeeds 49 = .ok (.goto 4, 3) := by decide +kernel
theorem dX7_tellsDeeds_52 : decode cX7_tellsDeeds 52 = .ok (.iconst 0, 1) := by decide +kernel
theorem dX7_tellsDeeds_53 : decode cX7_tellsDeeds 53 = .ok (.ireturn, 1) := by decide +kernel
theorem dX7_deedsDone_0 : decode cX7_deedsDone 0 = .ok (.iconst 0, 1) := by decide +kernel
theorem dX7_deedsDone_1 : decode cX7_deedsDone 1 = .ok (.istore_n 1, 1) := by decide +kernel
theorem dX7_deedsDone_2 : decode cX7_deedsDone 2 = .ok (.iconst 1, 1) := by decide +kernel
theorem dX7_deedsDone_3 : decode cX7_deedsDone 3 = .ok (.istore_n 2, 1) := by decide +kernel
theorem dX7_deedsDone_4 : decode cX7_deedsDone 4 = .ok (.iconst 0, 1) := by decide +kernel
theorem dX7_deedsDone_5 : decode cX7_deedsDone 5 = .ok (.istore_n 3, 1) := by decide +kernel
theorem dX7_deedsDone_6 : decode cX7_deedsDone 6 = .ok (.iload_n 3, 1) := by decide +kernel
theorem dX7_deedsDone_7 : decode cX7_deedsDone 7 = .ok (.aload_n 0, 1) := by decide +kernel
theorem dX7_deedsDone_8 : decode cX7_deedsDone 8 = .ok (.getfield 36, 3) := by decide +kernel
theorem dX7_deedsDone_11 : decode cX7_deedsDone 11 = .ok (.invokevirtual 77, 3) := by decide +kernel
theorem dX7_deedsDone_14 : decode cX7_deedsDone 14 = .ok (.if_icmp .ge 90, 3) := by decide +kernel
theorem dX7_deedsDone_17 : decode cX7_deedsDone 17 = .ok (.aload_n 0, 1) := by decide +kernel
theorem dX7_deedsDone_18 : decode cX7_deedsDone 18 = .ok (.getfield 36, 3) := by decide +kernel
theorem dX7_deedsDone_21 : decode cX7_deedsDone 21 = .ok (.iload_n 3, 1) := by decide +kernel
theorem dX7_deedsDone_22 : decode cX7_deedsDone 22 = .ok (.invokevirtual 160, 3) := by decide +kernel
theorem dX7_deedsDone_25 : decode cX7_deedsDone 25 = .ok (.istore 4, 2) := by decide +kernel
theorem dX7_deedsDone_27 : decode cX7_deedsDone 27 = .ok (.iload 4, 2) := by decide +kernel
theorem dX7_deedsDone_29 : decode cX7_deedsDone 29 = .ok (.invokestatic 321, 3) := by decide +kernel
theorem dX7_deedsDone_32 : decode cX7_deedsDone 32 = .ok (.ifCond .eq 12, 3) := by decide +kernel
theorem dX7_deedsDone_35 : decode cX7_deedsDone 35 = .ok (.iload 4, 2) := by decide +kernel
theorem dX7_deedsDone_37 : decode cX7_deedsDone 37 = .ok (.bipush 48, 2) := by decide +kernel
theorem dX7_deedsDone_39 : decode cX7_deedsDone 39 = .ok (.isub, 1) := by decide +kernel
theorem dX7_deedsDone_40 : decode cX7_deedsDone 40 = .ok (.istore_n 2, 1) := by decide +kernel
theorem dX7_deedsDone_41 : decode cX7_deedsDone 41 = .ok (.goto 57, 3) := by decide +kernel
theorem dX7_deedsDone_44 : decode cX7_deedsDone 44 = .ok (.iload 4, 2) := by decide +kernel
theorem dX7_deedsDone_46 : decode cX7_deedsDone 46 = .ok (.bipush 39, 2) := by decide +kernel
theorem dX7_deedsDone_48 : decode cX7_deedsDone 48 = .ok (.if_icmp .ne 6, 3) := by decide +kernel
theorem dX7_deedsDone_51 : decode cX7_deedsDone 51 = .ok (.iinc 3 1, 3) := by decide +kernel
theorem dX7_deedsDone_54 : decode cX7_deedsDone 54 = .ok (.iconst 0, 1) := by decide +kernel
theorem dX7_deedsDone_55 : decode cX7_deedsDone 55 = .ok (.istore 5, 2) := by decide +kernel
theorem dX7_deedsDone_57 : decode cX7_deedsDone 57 = .ok (.iload 5, 2) := by decide +kernel
theorem dX7_deedsDone_59 : decode cX7_deedsDone 59 = .ok (.iload_n 2, 1) := by decide +kernel
theorem dX7_deedsDone_60 : decode cX7_deedsDone 60 = .ok (.if_icmp .ge 32, 3) := by decide +kernel
theorem dX7_deedsDone_63 : decode cX7_deedsDone 63 = .ok (.aload_n 0, 1) := by decide +kernel
theorem dX7_deedsDone_64 : decode cX7_deedsDone 64 = .ok (.getfield 10, 3) := by decide +kernel
theorem dX7_deedsDone_67 : decode cX7_deedsDone 67 = .ok (.iload 4, 2) := by decide +kernel
theorem dX7_deedsDone_69 : decode cX7_deedsDone 69 = .ok (.aload_n 0, 1) := by decide +kernel
theorem dX7_deedsDone_70 : decode cX7_deedsDone 70 = .ok (.getfield 36, 3) := by decide +kernel
theorem dX7_deedsDone_73 : decode cX7_deedsDone 73 = .ok (.iload_n 3, 1) := by decide +kernel
theorem dX7_deedsDone_74 : decode cX7_deedsDone 74 = .ok (.invokevirtual 160, 3) := by decide +kernel
theorem dX7_deedsDone_77 : decode cX7_deedsDone 77 = .ok (.invokevirtual 325, 3) := by decide +kernel
theorem dX7_deedsDone_80 : decode cX7_deedsDone 80 = .ok (.iconst (-1), 1) := by decide +kernel
theorem dX7_deedsDone_81 : decode cX7_deedsDone 81 = .ok (.if_icmp .ne 5, 3) := by decide +kernel
theorem dX7_deedsDone_84 : decode cX7_deedsDone 84 = .ok (.iconst (-1), 1) := by decide +kernel
theorem dX7_deedsDone_85 : decode cX7_deedsDone 85 = .ok (.ireturn, 1) := by decide +kernel
theorem dX7_deedsDone_86 : decode cX7_deedsDone 86 = .ok (.iinc 5 1, 3) := by decide +kernel
theorem dX7_deedsDone_89 : decode cX7_deedsDone 89 = .ok (.goto (-32), 3) := by decide +kernel
theorem dX7_deedsDone_92 : decode cX7_deedsDone 92 = .ok (.iload_n 1, 1) := by decide +kernel
theorem dX7_deedsDone_93 : decode cX7_deedsDone 93 = .ok (.iload_n 2, 1) := by decide +kernel
theorem dX7_deedsDone_94 : decode cX7_deedsDone 94 = .ok (.iadd, 1) := by decide +kernel
theorem dX7_deedsDone_95 : decode cX7_deedsDone 95 = .ok (.istore_n 1, 1) := by decide +kernel
theorem dX7_deedsDone_96 : decode cX7_deedsDone 96 = .ok (.iconst 1, 1) := by decide +kernel
theorem dX7_deedsDone_97 : decode cX7_deedsDone 97 = .ok (.istore_n 2, 1) := by decide +kernel
theorem dX7_deedsDone_98 : decode cX7_deedsDone 98 = .ok (.iinc 3 1, 3) := by decide +kernel
theorem dX7_deedsDone_101 : decode cX7_deedsDone 101 = .ok (.goto (-95), 3) := by decide +kernel
theorem dX7_deedsDone_104 : decode cX7_deedsDone 104 = .ok (.iload_n 1, 1) := by decide +kernel
theorem dX7_deedsDone_105 : decode cX7_deedsDone 105 = .ok (.ireturn, 1) := by decide +kernel
theorem dJ11_isValidCodePoint_9a6ad_0 : decode cJ11_isValidCodePoint_9a6ad 0 = .ok (.iload_n 0, 1) := by decide +kernel
theorem dJ11_isValidCodePoint_9a6ad_1 : decode cJ11_isValidCodePoint_9a6ad 1 = .ok (.bipush 16, 2) := by decide +kernel
theorem dJ11_isValidCodePoint_9a6ad_3 : decode cJ11_isValidCodePoint_9a6ad 3 = .ok (.iushr, 1) := by decide +kernel
theorem dJ11_isValidCodePoint_9a6ad_4 : decode cJ11_isValidCodePoint_9a6ad 4 = .ok (.istore_n 1, 1) := by decide +kernel
theorem dJ11_isValidCodePoint_9a6ad_5 : decode cJ11_isValidCodePoint_9a6ad 5 = .ok (.iload_n 1, 1) := by decide +kernel
theorem dJ11_isValidCodePoint_9a6ad_6 : decode cJ11_isValidCodePoint_9a6ad 6 = .ok (.bipush 17, 2) := by decide +kernel
theorem dJ11_isValidCodePoint_9a6ad_8 : decode cJ11_isValidCodePoint_9a6ad 8 = .ok (.if_icmp .ge 7, 3) := by decide +kernel
theorem dJ11_isValidCodePoint_9a6ad_11 : decode cJ11_isValidCodePoint_9a6ad 11 = .ok (.iconst 1, 1) := by decide +kernel
theorem dJ11_isValidCodePoint_9a6ad_12 : decode cJ11_isValidCodePoint_9a6ad 12 = .ok (.goto 4, 3) := by decide +kernel
theorem dJ11_isValidCodePoint_9a6ad_15 : decode cJ11_isValidCodePoint_9a6ad 15 = .ok (.iconst 0, 1) := by decide +kernel
theorem dJ11_isValidCodePoint_9a6ad_16 : decode cJ11_isValidCodePoint_9a6ad 16 = .ok (.ireturn, 1) := by decide +kernel
theorem dJ11_highSurrogate_5068e_0 : decode cJ11_highSurrogate_5068e 0 = .ok (.iload_n 0, 1) := by decide +kernel
theorem dJ11_highSurrogate_5068e_1 : decode cJ11_highSurrogate_5068e 1 = .ok (.bipush 10, 2) := by decide +kernel
theorem dJ11_highSurrogate_5068e_3 : decode cJ11_highSurrogate_5068e 3 = .ok (.iushr, 1) := by decide +kernel
theorem dJ11_highSurrogate_5068e_4 : decode cJ11_highSurrogate_5068e 4 = .ok (.ldc 110, 2) := by decide +kernel
theorem dJ11_highSurrogate_5068e_6 : decode cJ11_highSurrogate_5068e 6 = .ok (.iadd, 1) := by decide +kernel
theorem dJ11_highSurrogate_5068e_7 : decode cJ11_highSurrogate_5068e 7 = .ok (.i2c, 1) := by decide +kernel
theorem dJ11_highSurrogate_5068e_8 : decode cJ11_highSurrogate_5068e 8 = .ok (.ireturn, 1) := by decide +kernel
theorem dJ11_lowSurrogate_5068e_0 : decode cJ11_lowSurrogate_5068e 0 = .ok (.iload_n 0, 1) := by decide +kernel
theorem dJ11_lowSurrogate_5068e_1 : decode cJ11_lowSurrogate_5068e 1 = .ok (.sipush 1023, 3) := by decide +kernel
theorem dJ11_lowSurrogate_5068e_4 : decode cJ11_lowSurrogate_5068e 4 = .ok (.iand, 1) := by decide +kernel
theorem dJ11_lowSurrogate_5068e_5 : decode cJ11_lowSurrogate_5068e 5 = .ok (.ldc 76, 2) := by decide +kernel
theorem dJ11_lowSurrogate_5068e_7 : decode cJ11_lowSurrogate_5068e 7 = .ok (.iadd, 1) := by decide +kernel
theorem dJ11_lowSurrogate_5068e_8 : decode cJ11_lowSurrogate_5068e 8 = .ok (.i2c, 1) := by decide +kernel
theorem dJ11_lowSurrogate_5068e_9 : decode cJ11_lowSurrogate_5068e 9 = .ok (.ireturn, 1) := by decide +kernel
theorem dJ9_floorMod_7cf53_0 : decode cJ9_floorMod_7cf53 0 = .ok (.iload_n 0, 1) := by decide +kernel
theorem dJ9_floorMod_7cf53_1 : decode cJ9_floorMod_7cf53 1 = .ok (.iload_n 1, 1) := by decide +kernel
theorem dJ9_floorMod_7cf53_2 : decode cJ9_floorMod_7cf53 2 = .ok (.irem, 1) := by decide +kernel
theorem dJ9_floorMod_7cf53_3 : decode cJ9_floorMod_7cf53 3 = .ok (.istore_n 2, 1) := by decide +kernel
theorem dJ9_floorMod_7cf53_4 : decode cJ9_floorMod_7cf53 4 = .ok (.iload_n 0, 1) := by decide +kernel
theorem dJ9_floorMod_7cf53_5 : decode cJ9_floorMod_7cf53 5 = .ok (.iload_n 1, 1) := by decide +kernel
theorem dJ9_floorMod_7cf53_6 : decode cJ9_floorMod_7cf53 6 = .ok (.ixor, 1) := by decide +kernel
theorem dJ9_floorMod_7cf53_7 : decode cJ9_floorMod_7cf53 7 = .ok (.ifCond .ge 11, 3) := by decide +kernel
theorem dJ9_floorMod_7cf53_10 : decode cJ9_floorMod_7cf53 10 = .ok (.iload_n 2, 1) := by decide +kernel
theorem dJ9_floorMod_7cf53_11 : decode cJ9_floorMod_7cf53 11 = .ok (.ifCond .eq 7, 3) := by decide +kernel
theorem dJ9_floorMod_7cf53_14 : decode cJ9_floorMod_7cf53 14 = .ok (.iload_n 2, 1) := by decide +kernel
theorem dJ9_floorMod_7cf53_15 : decode cJ9_floorMod_7cf53 15 = .ok (.iload_n 1, 1) := by decide +kernel
theorem dJ9_floorMod_7cf53_16 : decode cJ9_floorMod_7cf53 16 = .ok (.iadd, 1) := by decide +kernel
theorem dJ9_floorMod_7cf53_17 : decode cJ9_floorMod_7cf53 17 = .ok (.ireturn, 1) := by decide +kernel
theorem dJ9_floorMod_7cf53_18 : decode cJ9_floorMod_7cf53 18 = .ok (.iload_n 2, 1) := by decide +kernel
theorem dJ9_floorMod_7cf53_19 : decode cJ9_floorMod_7cf53 19 = .ok (.ireturn, 1) := by decide +kernel
theorem dJ9_abs_0f7a4_0 : decode cJ9_abs_0f7a4 0 = .ok (.iload_n 0, 1) := by decide +kernel
theorem dJ9_abs_0f7a4_1 : decode cJ9_abs_0f7a4 1 = .ok (.ifCond .ge 8, 3) := by decide +kernel
theorem dJ9_abs_0f7a4_4 : decode cJ9_abs_0f7a4 4 = .ok (.iload_n 0, 1) := by decide +kernel
theorem dJ9_abs_0f7a4_5 : decode cJ9_abs_0f7a4 5 = .ok (.ineg, 1) := by decide +kernel
theorem dJ9_abs_0f7a4_6 : decode cJ9_abs_0f7a4 6 = .ok (.goto 4, 3) := by decide +kernel
theorem dJ9_abs_0f7a4_9 : decode cJ9_abs_0f7a4 9 = .ok (.iload_n 0, 1) := by decide +kernel
theorem dJ9_abs_0f7a4_10 : decode cJ9_abs_0f7a4 10 = .ok (.ireturn, 1) := by decide +kernel
theorem dJ9_max_7cf53_0 : decode cJ9_max_7cf53 0 = .ok (.iload_n 0, 1) := by decide +kernel
theorem dJ9_max_7cf53_1 : decode cJ9_max_7cf53 1 = .ok (.iload_n 1, 1) := by decide +kernel
theorem dJ9_max_7cf53_2 : decode cJ9_max_7cf53 2 = .ok (.if_icmp .lt 7, 3) := by decide +kernel
theorem dJ9_max_7cf53_5 : decode cJ9_max_7cf53 5 = .ok (.iload_n 0, 1) := by decide +kernel
theorem dJ9_max_7cf53_6 : decode cJ9_max_7cf53 6 = .ok (.goto 4, 3) := by decide +kernel
theorem dJ9_max_7cf53_9 : decode cJ9_max_7cf53 9 = .ok (.iload_n 1, 1) := by decide +kernel
theorem dJ9_max_7cf53_10 : decode cJ9_max_7cf53 10 = .ok (.ireturn, 1) := by decide +kernel
theorem dJ9_min_7cf53_0 : decode cJ9_min_7cf53 0 = .ok (.iload_n 0, 1) := by decide +kernel
theorem dJ9_min_7cf53_1 : decode cJ9_min_7cf53 1 = .ok (.iload_n 1, 1) := by decide +kernel
theorem dJ9_min_7cf53_2 : decode cJ9_min_7cf53 2 = .ok (.if_icmp .gt 7, 3) := by decide +kernel
theorem dJ9_min_7cf53_5 : decode cJ9_min_7cf53 5 = .ok (.iload_n 0, 1) := by decide +kernel
theorem dJ9_min_7cf53_6 : decode cJ9_min_7cf53 6 = .ok (.goto 4, 3) := by decide +kernel
theorem dJ9_min_7cf53_9 : decode cJ9_min_7cf53 9 = .ok (.iload_n 1, 1) := by decide +kernel
theorem dJ9_min_7cf53_10 : decode cJ9_min_7cf53 10 = .ok (.ireturn, 1) := by decide +kernel
theorem dJ0_length_8abf5_0 : decode cJ0_length_8abf5 0 = .ok (.aload_n 0, 1) := by decide +kernel
theorem dJ0_length_8abf5_1 : decode cJ0_length_8abf5 1 = .ok (.getfield 9, 3) := by decide +kernel
theorem dJ0_length_8abf5_4 : decode cJ0_length_8abf5 4 = .ok (.arraylength, 1) := by decide +kernel
theorem dJ0_length_8abf5_5 : decode cJ0_length_8abf5 5 = .ok (.aload_n 0, 1) := by decide +kernel
theorem dJ0_length_8abf5_6 : decode cJ0_length_8abf5 6 = .ok (.invokevirtual 335, 3) := by decide +kernel
theorem dJ0_length_8abf5_9 : decode cJ0_length_8abf5 9 = .ok (.ishr, 1) := by decide +kernel
theorem dJ0_length_8abf5_10 : decode cJ0_length_8abf5 10 = .ok (.ireturn, 1) := by decide +kernel
theorem dJ0_indexOf_0f7a4_0 : decode cJ0_indexOf_0f7a4 0 = .ok (.aload_n 0, 1) := by decide +kernel
theorem dJ0_indexOf_0f7a4_1 : decode cJ0_indexOf_0f7a4 1 = .ok (.iload_n 1, 1) := by decide +kernel
theorem dJ0_indexOf_0f7a4_2 : decode cJ0_indexOf_0f7a4 2 = .ok (.iconst 0, 1) := by decide +kernel
theorem dJ0_indexOf_0f7a4_3 : decode cJ0_indexOf_0f7a4 3 = .ok (.invokevirtual 633, 3) := by decide +kernel
theorem dJ0_indexOf_0f7a4_6 : decode cJ0_indexOf_0f7a4 6 = .ok (.ireturn, 1) := by decide +kernel
theorem dJ0_indexOf_7cf53_0 : decode cJ0_indexOf_7cf53 0 = .ok (.aload_n 0, 1) := by decide +kernel
theorem dJ0_indexOf_7cf53_1 : decode cJ0_indexOf_7cf53 1 = .ok (.invokevirtual 492, 3) := by decide +kernel
theorem dJ0_indexOf_7cf53_4 : decode cJ0_indexOf_7cf53 4 = .ok (.ifCond .eq 19, 3) := by decide +kernel
theorem dJ0_indexOf_7cf53_7 : decode cJ0_indexOf_7cf53 7 = .ok (.aload_n 0, 1) := by decide +kernel
theorem dJ0_indexOf_7cf53_8 : decode cJ0_indexOf_7cf53 8 = .ok (.getfield 9, 3) := by decide +kernel
theorem dJ0_indexOf_7cf53_11 : decode cJ0_indexOf_7cf53 11 = .ok (.iload_n 1, 1) := by decide +kernel
theorem dJ0_indexOf_7cf53_12 : decode cJ0_indexOf_7cf53 12 = .ok (.iload_n 2, 1) := by decide +kernel
theorem dJ0_indexOf_7cf53_13 : decode cJ0_indexOf_7cf53 13 = .ok (.aload_n 0, 1) := by decide +kernel
theorem dJ0_indexOf_7cf53_14 : decode cJ0_indexOf_7cf53 14 = .ok (.invokevirtual 505, 3) := by decide +kernel
theorem dJ0_indexOf_7cf53_17 : decode cJ0_indexOf_7cf53 17 = .ok (.invokestatic 637, 3) := by decide +kernel
theorem dJ0_indexOf_7cf53_20 : decode cJ0_indexOf_7cf53 20 = .ok (.goto 16, 3) := by decide +kernel
theorem dJ0_indexOf_7cf53_23 : decode cJ0_indexOf_7cf53 23 = .ok (.aload_n 0, 1) := by decide +kernel
theorem dJ0_indexOf_7cf53_24 : decode cJ0_indexOf_7cf53 24 = .ok (.getfield 9, 3) := by decide +kernel
theorem dJ0_indexOf_7cf53_27 : decode cJ0_indexOf_7cf53 27 = .ok (.iload_n 1, 1) := by decide +kernel
theorem dJ0_indexOf_7cf53_28 : decode cJ0_indexOf_7cf53 28 = .ok (.iload_n 2, 1) := by decide +kernel
theorem dJ0_indexOf_7cf53_29 : decode cJ0_indexOf_7cf53 29 = .ok (.aload_n 0, 1) := by decide +kernel
theorem dJ0_indexOf_7cf53_30 : decode cJ0_indexOf_7cf53 30 = .ok (.invokevirtual 505, 3) := by decide +kernel
theorem dJ0_indexOf_7cf53_33 : decode cJ0_indexOf_7cf53 33 = .ok (.invokestatic 640, 3) := by decide +kernel
theorem dJ0_indexOf_7cf53_36 : decode cJ0_indexOf_7cf53 36 = .ok (.ireturn, 1) := by decide +kernel
theorem dJ0_coder_7d493_0 : decode cJ0_coder_7d493 0 = .ok (.getstatic 38, 3) := by decide +kernel
theorem dJ0_coder_7d493_3 : decode cJ0_coder_7d493 3 = .ok (.ifCond .eq 10, 3) := by decide +kernel
theorem dJ0_coder_7d493_6 : decode cJ0_coder_7d493 6 = .ok (.aload_n 0, 1) := by decide +kernel
theorem dJ0_coder_7d493_7 : decode cJ0_coder_7d493 7 = .ok (.getfield 15, 3) := by decide +kernel
theorem dJ0_coder_7d493_10 : decode cJ0_coder_7d493 10 = .ok (.goto 4, 3) := by decide +kernel
theorem dJ0_coder_7d493_13 : decode cJ0_coder_7d493 13 = .ok (.iconst 1, 1) := by decide +kernel
theorem dJ0_coder_7d493_14 : decode cJ0_coder_7d493 14 = .ok (.ireturn, 1) := by decide +kernel
theorem dJ0_isLatin1_aae02_0 : decode cJ0_isLatin1_aae02 0 = .ok (.getstatic 38, 3) := by decide +kernel
theorem dJ0_isLatin1_aae02_3 : decode cJ0_isLatin1_aae02 3 = .ok (.ifCond .eq 14, 3) := by decide +kernel
theorem dJ0_isLatin1_aae02_6 : decode cJ0_isLatin1_aae02 6 = .ok (.aload_n 0, 1) := by decide +kernel
theorem dJ0_isLatin1_aae02_7 : decode cJ0_isLatin1_aae02 7 = .ok (.getfield 15, 3) := by decide +kernel
theorem dJ0_isLatin1_aae02_10 : decode cJ0_isLatin1_aae02 10 = .ok (.ifCond .ne 7, 3) := by decide +kernel
theorem dJ0_isLatin1_aae02_13 : decode cJ0_isLatin1_aae02 13 = .ok (.iconst 1, 1) := by decide +kernel
theorem dJ0_isLatin1_aae02_14 : decode cJ0_isLatin1_aae02 14 = .ok (.goto 4, 3) := by decide +kernel
theorem dJ0_isLatin1_aae02_17 : decode cJ0_isLatin1_aae02 17 = .ok (.iconst 0, 1) := by decide +kernel
theorem dJ0_isLatin1_aae02_18 : decode cJ0_isLatin1_aae02 18 = .ok (.ireturn, 1) := by decide +kernel
theorem dJ0_checkBoundsBeginEnd_23922_0 : decode cJ0_checkBoundsBeginEnd_23922 0 = .ok (.iload_n 0, 1) := by decide +kernel
theorem dJ0_checkBoundsBeginEnd_23922_1 : decode cJ0_checkBoundsBeginEnd_23922 1 = .ok (.iload_n 1, 1) := by decide +kernel
theorem dJ0_checkBoundsBeginEnd_23922_2 : decode cJ0_checkBoundsBeginEnd_23922 2 = .ok (.iload_n 2, 1) := by decide +kernel
theorem dJ0_checkBoundsBeginEnd_23922_3 : decode cJ0_checkBoundsBeginEnd_23922 3 = .ok (.getstatic 1053, 3) := by decide +kernel
theorem dJ0_checkBoundsBeginEnd_23922_6 : decode cJ0_checkBoundsBeginEnd_23922 6 = .ok (.invokestatic 1062, 3) := by decide +kernel
theorem dJ0_checkBoundsBeginEnd_23922_9 : decode cJ0_checkBoundsBeginEnd_23922 9 = .ok (.pop, 1) := by decide +kernel
theorem dJ0_checkBoundsBeginEnd_23922_10 : decode cJ0_checkBoundsBeginEnd_23922 10 = .ok (.return_, 1) := by decide +kernel
theorem dJ1_canEncode_9a6ad_0 : decode cJ1_canEncode_9a6ad 0 = .ok (.iload_n 0, 1) := by decide +kernel
theorem dJ1_canEncode_9a6ad_1 : decode cJ1_canEncode_9a6ad 1 = .ok (.ifCond .lt 14, 3) := by decide +kernel
theorem dJ1_canEncode_9a6ad_4 : decode cJ1_canEncode_9a6ad 4 = .ok (.iload_n 0, 1) := by decide +kernel
theorem dJ1_canEncode_9a6ad_5 : decode cJ1_canEncode_9a6ad 5 = .ok (.sipush 255, 3) := by decide +kernel
theorem dJ1_canEncode_9a6ad_8 : decode cJ1_canEncode_9a6ad 8 = .ok (.if_icmp .gt 7, 3) := by decide +kernel
theorem dJ1_canEncode_9a6ad_11 : decode cJ1_canEncode_9a6ad 11 = .ok (.iconst 1, 1) := by decide +kernel
theorem dJ1_canEncode_9a6ad_12 : decode cJ1_canEncode_9a6ad 12 = .ok (.goto 4, 3) := by decide +kernel
theorem dJ1_canEncode_9a6ad_15 : decode cJ1_canEncode_9a6ad 15 = .ok (.iconst 0, 1) := by decide +kernel
theorem dJ1_canEncode_9a6ad_16 : decode cJ1_canEncode_9a6ad 16 = .ok (.ireturn, 1) := by decide +kernel
theorem dJ1_indexOf_4cfef_0 : decode cJ1_indexOf_4cfef 0 = .ok (.iload_n 1, 1) := by decide +kernel
theorem dJ1_indexOf_4cfef_1 : decode cJ1_indexOf_4cfef 1 = .ok (.invokestatic 88, 3) := by decide +kernel
theorem dJ1_indexOf_4cfef_4 : decode cJ1_indexOf_4cfef 4 = .ok (.ifCond .ne 5, 3) := by decide +kernel
theorem dJ1_indexOf_4cfef_7 : decode cJ1_indexOf_4cfef 7 = .ok (.iconst (-1), 1) := by decide +kernel
theorem dJ1_indexOf_4cfef_8 : decode cJ1_indexOf_4cfef 8 = .ok (.ireturn, 1) := by decide +kernel
theorem dJ1_indexOf_4cfef_9 : decode cJ1_indexOf_4cfef 9 = .ok (.iload_n 2, 1) := by decide +kernel
theorem dJ1_indexOf_4cfef_10 : decode cJ1_indexOf_4cfef 10 = .ok (.iconst 0, 1) := by decide +kernel
theorem dJ1_indexOf_4cfef_11 : decode cJ1_indexOf_4cfef 11 = .ok (.invokestatic 92, 3) := by decide +kernel
theorem dJ1_indexOf_4cfef_14 : decode cJ1_indexOf_4cfef 14 = .ok (.istore_n 2, 1) := by decide +kernel
theorem dJ1_indexOf_4cfef_15 : decode cJ1_indexOf_4cfef 15 = .ok (.iload_n 3, 1) := by decide +kernel
theorem dJ1_indexOf_4cfef_16 : decode cJ1_indexOf_4cfef 16 = .ok (.aload_n 0, 1) := by decide +kernel
theorem dJ1_indexOf_4cfef_17 : decode cJ1_indexOf_4cfef 17 = .ok (.arraylength, 1) := by decide +kernel
theorem dJ1_indexOf_4cfef_18 : decode cJ1_indexOf_4cfef 18 = .ok (.invokestatic 38, 3) := by decide +kernel
theorem dJ1_indexOf_4cfef_21 : decode cJ1_indexOf_4cfef 21 = .ok (.istore_n 3, 1) := by decide +kernel
theorem dJ1_indexOf_4cfef_22 : decode cJ1_indexOf_4cfef 22 = .ok (.iload_n 2, 1) := by decide +kernel
theorem dJ1_indexOf_4cfef_23 : decode cJ1_indexOf_4cfef 23 = .ok (.iload_n 3, 1) := by decide +kernel
theorem dJ1_indexOf_4cfef_24 : decode cJ1_indexOf_4cfef 24 = .ok (.if_icmp .lt 5, 3) := by decide +kernel
theorem dJ1_indexOf_4cfef_27 : decode cJ1_indexOf_4cfef 27 = .ok (.iconst (-1), 1) := by decide +kernel
theorem dJ1_indexOf_4cfef_28 : decode cJ1_indexOf_4cfef 28 = .ok (.ireturn, 1) := by decide +kernel
theorem dJ1_indexOf_4cfef_29 : decode cJ1_indexOf_4cfef 29 = .ok (.aload_n 0, 1) := by decide +kernel
theorem dJ1_indexOf_4cfef_30 : decode cJ1_indexOf_4cfef 30 = .ok (.iload_n 1, 1) := by decide +kernel
theorem dJ1_indexOf_4cfef_31 : decode cJ1_indexOf_4cfef 31 = .ok (.iload_n 2, 1) := by decide +kernel
theorem dJ1_indexOf_4cfef_32 : decode cJ1_indexOf_4cfef 32 = .ok (.iload_n 3, 1) := by decide +kernel
theorem dJ1_indexOf_4cfef_33 : decode cJ1_indexOf_4cfef 33 = .ok (.invokestatic 95, 3) := by decide +kernel
theorem dJ1_indexOf_4cfef_36 : decode cJ1_indexOf_4cfef 36 = .ok (.ireturn, 1) := by decide +kernel
theorem dJ1_indexOfChar_4cfef_0 : decode cJ1_indexOfChar_4cfef 0 = .ok (.iload_n 1, 1) := by decide +kernel
theorem dJ1_indexOfChar_4cfef_1 : decode cJ1_indexOfChar_4cfef 1 = .ok (.i2b, 1) := by decide +kernel
theorem dJ1_indexOfChar_4cfef_2 : decode cJ1_indexOfChar_4cfef 2 = .ok (.istore 4, 2) := by decide +kernel
theorem dJ1_indexOfChar_4cfef_4 : decode cJ1_indexOfChar_4cfef 4 = .ok (.iload_n 2, 1) := by decide +kernel
theorem dJ1_indexOfChar_4cfef_5 : decode cJ1_indexOfChar_4cfef 5 = .ok (.istore 5, 2) := by decide +kernel
theorem dJ1_indexOfChar_4cfef_7 : decode cJ1_indexOfChar_4cfef 7 = .ok (.iload 5, 2) := by decide +kernel
theorem dJ1_indexOfChar_4cfef_9 : decode cJ1_indexOfChar_4cfef 9 = .ok (.iload_n 3, 1) := by decide +kernel
theorem dJ1_indexOfChar_4cfef_10 : decode cJ1_indexOfChar_4cfef 10 = .ok (.if_icmp .ge 21, 3) := by decide +kernel
theorem dJ1_indexOfChar_4cfef_13 : decode cJ1_indexOfChar_4cfef 13 = .ok (.aload_n 0, 1) := by decide +kernel
theorem dJ1_indexOfChar_4cfef_14 : decode cJ1_indexOfChar_4cfef 14 = .ok (.iload 5, 2) := by decide +kernel
theorem dJ1_indexOfChar_4cfef_16 : decode cJ1_indexOfChar_4cfef 16 = .ok (.baload, 1) := by decide +kernel
theorem dJ1_indexOfChar_4cfef_17 : decode cJ1_indexOfChar_4cfef 17 = .ok (.iload 4, 2) := by decide +kernel
theorem dJ1_indexOfChar_4cfef_19 : decode cJ1_indexOfChar_4cfef 19 = .ok (.if_icmp .ne 6, 3) := by decide +kernel
theorem dJ1_indexOfChar_4cfef_22 : decode cJ1_indexOfChar_4cfef 22 = .ok (.iload 5, 2) := by decide +kernel
theorem dJ1_indexOfChar_4cfef_24 : decode cJ1_indexOfChar_4cfef 24 = .ok (.ireturn, 1) := by decide +kernel
theorem dJ1_indexOfChar_4cfef_25 : decode cJ1_indexOfChar_4cfef 25 = .ok (.iinc 5 1, 3) := by decide +kernel
theorem dJ1_indexOfChar_4cfef_28 : decode cJ1_indexOfChar_4cfef 28 = .ok (.goto (-21), 3) := by decide +kernel
theorem dJ1_indexOfChar_4cfef_31 : decode cJ1_indexOfChar_4cfef 31 = .ok (.iconst (-1), 1) := by decide +kernel
theorem dJ1_indexOfChar_4cfef_32 : decode cJ1_indexOfChar_4cfef 32 = .ok (.ireturn, 1) := by decide +kernel
theorem dJ2_getChar_3b067_0 : decode cJ2_getChar_3b067 0 = .ok (.getstatic 44, 3) := by decide +kernel
theorem dJ2_getChar_3b067_3 : decode cJ2_getChar_3b067 3 = .ok (.ifCond .ne 25, 3) := by decide +kernel
theorem dJ2_getChar_3b067_6 : decode cJ2_getChar_3b067 6 = .ok (.iload_n 1, 1) := by decide +kernel
theorem dJ2_getChar_3b067_7 : decode cJ2_getChar_3b067 7 = .ok (.ifCond .lt 11, 3) := by decide +kernel
theorem dJ2_getChar_3b067_10 : decode cJ2_getChar_3b067 10 = .ok (.iload_n 1, 1) := by decide +kernel
theorem dJ2_getChar_3b067_11 : decode cJ2_getChar_3b067 11 = .ok (.aload_n 0, 1) := by decide +kernel
theorem dJ2_getChar_3b067_12 : decode cJ2_getChar_3b067 12 = .ok (.invokestatic 48, 3) := by decide +kernel
theorem dJ2_getChar_3b067_15 : decode cJ2_getChar_3b067 15 = .ok (.if_icmp .lt 13, 3) := by decide +kernel
theorem dJ2_getChar_3b067_18 : decode cJ2_getChar_3b067 18 = .ok (.new 52, 3) := by decide +kernel
theorem dJ2_getChar_3b067_21 : decode cJ2_getChar_3b067 21 = .ok (.dup, 1) := by decide +kernel
theorem dJ2_getChar_3b067_22 : decode cJ2_getChar_3b067 22 = .ok (.ldc 54, 2) := by decide +kernel
theorem dJ2_getChar_3b067_24 : decode cJ2_getChar_3b067 24 = .ok (.invokespecial 56, 3) := by decide +kernel
theorem dJ2_getChar_3b067_27 : decode cJ2_getChar_3b067 27 = .ok (.athrow, 1) := by decide +kernel
theorem dJ2_getChar_3b067_28 : decode cJ2_getChar_3b067 28 = .ok (.iload_n 1, 1) := by decide +kernel
theorem dJ2_getChar_3b067_29 : decode cJ2_getChar_3b067 29 = .ok (.iconst 1, 1) := by decide +kernel
theorem dJ2_getChar_3b067_30 : decode cJ2_getChar_3b067 30 = .ok (.ishl, 1) := by decide +kernel
theorem dJ2_getChar_3b067_31 : decode cJ2_getChar_3b067 31 = .ok (.istore_n 1, 1) := by decide +kernel
theorem dJ2_getChar_3b067_32 : decode cJ2_getChar_3b067 32 = .ok (.aload_n 0, 1) := by decide +kernel
theorem dJ2_getChar_3b067_33 : decode cJ2_getChar_3b067 33 = .ok (.iload_n 1, 1) := by decide +kernel
theorem dJ2_getChar_3b067_34 : decode cJ2_getChar_3b067 34 = .ok (.iinc 1 1, 3) := by decide +kernel
theorem dJ2_getChar_3b067_37 : decode cJ2_getChar_3b067 37 = .ok (.baload, 1) := by decide +kernel
theorem dJ2_getChar_3b067_38 : decode cJ2_getChar_3b067 38 = .ok (.sipush 255, 3) := by decide +kernel
theorem dJ2_getChar_3b067_41 : decode cJ2_getChar_3b067 41 = .ok (.iand, 1) := by decide +kernel
theorem dJ2_getChar_3b067_42 : decode cJ2_getChar_3b067 42 = .ok (.getstatic 59, 3) := by decide +kernel
theorem dJ2_getChar_3b067_45 : decode cJ2_getChar_3b067 45 = .ok (.ishl, 1) := by decide +kernel
theorem dJ2_getChar_3b067_46 : decode cJ2_getChar_3b067 46 = .ok (.aload_n 0, 1) := by decide +kernel
theorem dJ2_getChar_3b067_47 : decode cJ2_getChar_3b067 47 = .ok (.iload_n 1, 1) := by decide +kernel
theorem dJ2_getChar_3b067_48 : decode cJ2_getChar_3b067 48 = .ok (.baload, 1) := by decide +kernel
theorem dJ2_getChar_3b067_49 : decode cJ2_getChar_3b067 49 = .ok (.sipush 255, 3) := by decide +kernel
theorem dJ2_getChar_3b067_52 : decode cJ2_getChar_3b067 52 = .ok (.iand, 1) := by decide +kernel
theorem dJ2_getChar_3b067_53 : decode cJ2_getChar_3b067 53 = .ok (.getstatic 63, 3) := by decide +kernel
theorem dJ2_getChar_3b067_56 : decode cJ2_getChar_3b067 56 = .ok (.ishl, 1) := by decide +kernel
theorem dJ2_getChar_3b067_57 : decode cJ2_getChar_3b067 57 = .ok (.ior, 1) := by decide +kernel
theorem dJ2_getChar_3b067_58 : decode cJ2_getChar_3b067 58 = .ok (.i2c, 1) := by decide +kernel
theorem dJ2_getChar_3b067_59 : decode cJ2_getChar_3b067 59 = .ok (.ireturn, 1) := by decide +kernel
theorem dJ2_length_9d52b_0 : decode cJ2_length_9d52b 0 = .ok (.aload_n 0, 1) := by decide +kernel
theorem dJ2_length_9d52b_1 : decode cJ2_length_9d52b 1 = .ok (.arraylength, 1) := by decide +kernel
theorem dJ2_length_9d52b_2 : decode cJ2_length_9d52b 2 = .ok (.iconst 1, 1) := by decide +kernel
theorem dJ2_length_9d52b_3 : decode cJ2_length_9d52b 3 = .ok (.ishr, 1) := by decide +kernel
theorem dJ2_length_9d52b_4 : decode cJ2_length_9d52b 4 = .ok (.ireturn, 1) := by decide +kernel
theorem dJ2_indexOf_4cfef_0 : decode cJ2_indexOf_4cfef 0 = .ok (.iload_n 2, 1) := by decide +kernel
theorem dJ2_indexOf_4cfef_1 : decode cJ2_indexOf_4cfef 1 = .ok (.iconst 0, 1) := by decide +kernel
theorem dJ2_indexOf_4cfef_2 : decode cJ2_indexOf_4cfef 2 = .ok (.invokestatic 224, 3) := by decide +kernel
theorem dJ2_indexOf_4cfef_5 : decode cJ2_indexOf_4cfef 5 = .ok (.istore_n 2, 1) := by decide +kernel
theorem dJ2_indexOf_4cfef_6 : decode cJ2_indexOf_4cfef 6 = .ok (.iload_n 3, 1) := by decide +kernel
theorem dJ2_indexOf_4cfef_7 : decode cJ2_indexOf_4cfef 7 = .ok (.aload_n 0, 1) := by decide +kernel
theorem dJ2_indexOf_4cfef_8 : decode cJ2_indexOf_4cfef 8 = .ok (.arraylength, 1) := by decide +kernel
theorem dJ2_indexOf_4cfef_9 : decode cJ2_indexOf_4cfef 9 = .ok (.iconst 1, 1) := by decide +kernel
theorem dJ2_indexOf_4cfef_10 : decode cJ2_indexOf_4cfef 10 = .ok (.ishr, 1) := by decide +kernel
theorem dJ2_indexOf_4cfef_11 : decode cJ2_indexOf_4cfef 11 = .ok (.invokestatic 183, 3) := by decide +kernel
theorem dJ2_indexOf_4cfef_14 : decode cJ2_indexOf_4cfef 14 = .ok (.istore_n 3, 1) := by decide +kernel
theorem dJ2_indexOf_4cfef_15 : decode cJ2_indexOf_4cfef 15 = .ok (.iload_n 2, 1) := by decide +kernel
theorem dJ2_indexOf_4cfef_16 : decode cJ2_indexOf_4cfef 16 = .ok (.iload_n 3, 1) := by decide +kernel
theorem dJ2_indexOf_4cfef_17 : decode cJ2_indexOf_4cfef 17 = .ok (.if_icmp .lt 5, 3) := by decide +kernel
theorem dJ2_indexOf_4cfef_20 : decode cJ2_indexOf_4cfef 20 = .ok (.iconst (-1), 1) := by decide +kernel
theorem dJ2_indexOf_4cfef_21 : decode cJ2_indexOf_4cfef 21 = .ok (.ireturn, 1) := by decide +kernel
theorem dJ2_indexOf_4cfef_22 : decode cJ2_indexOf_4cfef 22 = .ok (.iload_n 1, 1) := by decide +kernel
theorem dJ2_indexOf_4cfef_23 : decode cJ2_indexOf_4cfef 23 = .ok (.ldc 227, 2) := by decide +kernel
theorem dJ2_indexOf_4cfef_25 : decode cJ2_indexOf_4cfef 25 = .ok (.if_icmp .ge 11, 3) := by decide +kernel
theorem dJ2_indexOf_4cfef_28 : decode cJ2_indexOf_4cfef 28 = .ok (.aload_n 0, 1) := by decide +kernel
theorem dJ2_indexOf_4cfef_29 : decode cJ2_indexOf_4cfef 29 = .ok (.iload_n 1, 1) := by decide +kernel
theorem dJ2_indexOf_4cfef_30 : decode cJ2_indexOf_4cfef 30 = .ok (.iload_n 2, 1) := by decide +kernel
theorem dJ2_indexOf_4cfef_31 : decode cJ2_indexOf_4cfef 31 = .ok (.iload_n 3, 1) := by decide +kernel
theorem dJ2_indexOf_4cfef_32 : decode cJ2_indexOf_4cfef 32 = .ok (.invokestatic 228, 3) := by decide +kernel
theorem dJ2_indexOf_4cfef_35 : decode cJ2_indexOf_4cfef 35 = .ok (.ireturn, 1) := by decide +kernel
theorem dJ2_indexOf_4cfef_36 : decode cJ2_indexOf_4cfef 36 = .ok (.aload_n 0, 1) := by decide +kernel
theorem dJ2_indexOf_4cfef_37 : decode cJ2_indexOf_4cfef 37 = .ok (.iload_n 1, 1) := by decide +kernel
theorem dJ2_indexOf_4cfef_38 : decode cJ2_indexOf_4cfef 38 = .ok (.iload_n 2, 1) := by decide +kernel
theorem dJ2_indexOf_4cfef_39 : decode cJ2_indexOf_4cfef 39 = .ok (.iload_n 3, 1) := by decide +kernel
theorem dJ2_indexOf_4cfef_40 : decode cJ2_indexOf_4cfef 40 = .ok (.invokestatic 232, 3) := by decide +kernel
theorem dJ2_indexOf_4cfef_43 : decode cJ2_indexOf_4cfef 43 = .ok (.ireturn, 1) := by decide +kernel
theorem dJ2_indexOfChar_4cfef_0 : decode cJ2_indexOfChar_4cfef 0 = .ok (.iload_n 2, 1) := by decide +kernel
theorem dJ2_indexOfChar_4cfef_1 : decode cJ2_indexOfChar_4cfef 1 = .ok (.iload_n 3, 1) := by decide +kernel
theorem dJ2_indexOfChar_4cfef_2 : decode cJ2_indexOfChar_4cfef 2 = .ok (.aload_n 0, 1) := by decide +kernel
theorem dJ2_indexOfChar_4cfef_3 : decode cJ2_indexOfChar_4cfef 3 = .ok (.invokestatic 96, 3) := by decide +kernel
theorem dJ2_indexOfChar_4cfef_6 : decode cJ2_indexOfChar_4cfef 6 = .ok (.aload_n 0, 1) := by decide +kernel
theorem dJ2_indexOfChar_4cfef_7 : decode cJ2_indexOfChar_4cfef 7 = .ok (.iload_n 1, 1) := by decide +kernel
theorem dJ2_indexOfChar_4cfef_8 : decode cJ2_indexOfChar_4cfef 8 = .ok (.iload_n 2, 1) := by decide +kernel
theorem dJ2_indexOfChar_4cfef_9 : decode cJ2_indexOfChar_4cfef 9 = .ok (.iload_n 3, 1) := by decide +kernel
theorem dJ2_indexOfChar_4cfef_10 : decode cJ2_indexOfChar_4cfef 10 = .ok (.invokestatic 244, 3) := by decide +kernel
theorem dJ2_indexOfChar_4cfef_13 : decode cJ2_indexOfChar_4cfef 13 = .ok (.ireturn, 1) := by decide +kernel
theorem dJ2_indexOfCharUnsafe_4cfef_0 : decode cJ2_indexOfCharUnsafe_4cfef 0 = .ok (.iload_n 2, 1) := by decide +kernel
theorem dJ2_indexOfCharUnsafe_4cfef_1 : decode cJ2_indexOfCharUnsafe_4cfef 1 = .ok (.istore 4, 2) := by decide +kernel
theorem dJ2_indexOfCharUnsafe_4cfef_3 : decode cJ2_indexOfCharUnsafe_4cfef 3 = .ok (.iload 4, 2) := by decide +kernel
theorem dJ2_indexOfCharUnsafe_4cfef_5 : decode cJ2_indexOfCharUnsafe_4cfef 5 = .ok (.iload_n 3, 1) := by decide +kernel
theorem dJ2_indexOfCharUnsafe_4cfef_6 : decode cJ2_indexOfCharUnsafe_4cfef 6 = .ok (.if_icmp .ge 22, 3) := by decide +kernel
theorem dJ2_indexOfCharUnsafe_4cfef_9 : decode cJ2_indexOfCharUnsafe_4cfef 9 = .ok (.aload_n 0, 1) := by decide +kernel
theorem dJ2_indexOfCharUnsafe_4cfef_10 : decode cJ2_indexOfCharUnsafe_4cfef 10 = .ok (.iload 4, 2) := by decide +kernel
theorem dJ2_indexOfCharUnsafe_4cfef_12 : decode cJ2_indexOfCharUnsafe_4cfef 12 = .ok (.invokestatic 71, 3) := by decide +kernel
theorem dJ2_indexOfCharUnsafe_4cfef_15 : decode cJ2_indexOfCharUnsafe_4cfef 15 = .ok (.iload_n 1, 1) := by decide +kernel
theorem dJ2_indexOfCharUnsafe_4cfef_16 : decode cJ2_indexOfCharUnsafe_4cfef 16 = .ok (.if_icmp .ne 6, 3) := by decide +kernel
theorem dJ2_indexOfCharUnsafe_4cfef_19 : decode cJ2_indexOfCharUnsafe_4cfef 19 = .ok (.iload 4, 2) := by decide +kernel
theorem dJ2_indexOfCharUnsafe_4cfef_21 : decode cJ2_indexOfCharUnsafe_4cfef 21 = .ok (.ireturn, 1) := by decide +kernel
theorem dJ2_indexOfCharUnsafe_4cfef_22 : decode cJ2_indexOfCharUnsafe_4cfef 22 = .ok (.iinc 4 1, 3) := by decide +kernel
theorem dJ2_indexOfCharUnsafe_4cfef_25 : decode cJ2_indexOfCharUnsafe_4cfef 25 = .ok (.goto (-22), 3) := by decide +kernel
theorem dJ2_indexOfCharUnsafe_4cfef_28 : decode cJ2_indexOfCharUnsafe_4cfef 28 = .ok (.iconst (-1), 1) := by decide +kernel
theorem dJ2_indexOfCharUnsafe_4cfef_29 : decode cJ2_indexOfCharUnsafe_4cfef 29 = .ok (.ireturn, 1) := by decide +kernel
theorem dJ2_indexOfSupplementary_4cfef_0 : decode cJ2_indexOfSupplementary_4cfef 0 = .ok (.iload_n 1, 1) := by decide +kernel
theorem dJ2_indexOfSupplementary_4cfef_1 : decode cJ2_indexOfSupplementary_4cfef 1 = .ok (.invokestatic 164, 3) := by decide +kernel
theorem dJ2_indexOfSupplementary_4cfef_4 : decode cJ2_indexOfSupplementary_4cfef 4 = .ok (.ifCond .eq 65, 3) := by decide +kernel
theorem dJ2_indexOfSupplementary_4cfef_7 : decode cJ2_indexOfSupplementary_4cfef 7 = .ok (.iload_n 1, 1) := by decide +kernel
theorem dJ2_indexOfSupplementary_4cfef_8 : decode cJ2_indexOfSupplementary_4cfef 8 = .ok (.invokestatic 157, 3) := by decide +kernel
theorem dJ2_indexOfSupplementary_4cfef_11 : decode cJ2_indexOfSupplementary_4cfef 11 = .ok (.istore 4, 2) := by decide +kernel
theorem dJ2_indexOfSupplementary_4cfef_13 : decode cJ2_indexOfSupplementary_4cfef 13 = .ok (.iload_n 1, 1) := by decide +kernel
theorem dJ2_indexOfSupplementary_4cfef_14 : decode cJ2_indexOfSupplementary_4cfef 14 = .ok (.invokestatic 161, 3) := by decide +kernel
theorem dJ2_indexOfSupplementary_4cfef_17 : decode cJ2_indexOfSupplementary_4cfef 17 = .ok (.istore 5, 2) := by decide +kernel
theorem dJ2_indexOfSupplementary_4cfef_19 : decode cJ2_indexOfSupplementary_4cfef 19 = .ok (.iload_n 2, 1) := by decide +kernel
theorem dJ2_indexOfSupplementary_4cfef_20 : decode cJ2_indexOfSupplementary_4cfef 20 = .ok (.iload_n 3, 1) := by decide +kernel
theorem dJ2_indexOfSupplementary_4cfef_21 : decode cJ2_indexOfSupplementary_4cfef 21 = .ok (.aload_n 0, 1) := by decide +kernel
theorem dJ2_indexOfSupplementary_4cfef_22 : decode cJ2_indexOfSupplementary_4cfef 22 = .ok (.invokestatic 96, 3) := by decide +kernel
theorem dJ2_indexOfSupplementary_4cfef_25 : decode cJ2_indexOfSupplementary_4cfef 25 = .ok (.iload_n 2, 1) := by decide +kernel
theorem dJ2_indexOfSupplementary_4cfef_26 : decode cJ2_indexOfSupplementary_4cfef 26 = .ok (.istore 6, 2) := by decide +kernel
theorem dJ2_indexOfSupplementary_4cfef_28 : decode cJ2_indexOfSupplementary_4cfef 28 = .ok (.iload 6, 2) := by decide +kernel
theorem dJ2_indexOfSupplementary_4cfef_30 : decode cJ2_indexOfSupplementary_4cfef 30 = .ok (.iload_n 3, 1) := by decide +kernel
theorem dJ2_indexOfSupplementary_4cfef_31 : decode cJ2_indexOfSupplementary_4cfef 31 = .ok (.iconst 1, 1) := by decide +kernel
theorem dJ2_indexOfSupplementary_4cfef_32 : decode cJ2_indexOfSupplementary_4cfef 32 = .ok (.isub, 1) := by decide +kernel
theorem dJ2_indexOfSupplementary_4cfef_33 : decode cJ2_indexOfSupplementary_4cfef 33 = .ok (.if_icmp .ge 36, 3) := by decide +kernel
theorem dJ2_indexOfSupplementary_4cfef_36 : decode cJ2_indexOfSupplementary_4cfef 36 = .ok (.aload_n 0, 1) := by decide +kernel
theorem dJ2_indexOfSupplementary_4cfef_37 : decode cJ2_indexOfSupplementary_4cfef 37 = .ok (.iload 6, 2) := by decide +kernel
theorem dJ2_indexOfSupplementary_4cfef_39 : decode cJ2_indexOfSupplementary_4cfef 39 = .ok (.invokestatic 71, 3) := by decide +kernel
theorem dJ2_indexOfSupplementary_4cfef_42 : decode cJ2_indexOfSupplementary_4cfef 42 = .ok (.iload 4, 2) := by decide +kernel
theorem dJ2_indexOfSupplementary_4cfef_44 : decode cJ2_indexOfSupplementary_4cfef 44 = .ok (.if_icmp .ne 19, 3) := by decide +kernel
theorem dJ2_indexOfSupplementary_4cfef_47 : decode cJ2_indexOfSupplementary_4cfef 47 = .ok (.aload_n 0, 1) := by decide +kernel
theorem dJ2_indexOfSupplementary_4cfef_48 : decode cJ2_indexOfSupplementary_4cfef 48 = .ok (.iload 6, 2) := by decide +kernel
theorem dJ2_indexOfSupplementary_4cfef_50 : decode cJ2_indexOfSupplementary_4cfef 50 = .ok (.iconst 1, 1) := by decide +kernel
theorem dJ2_indexOfSupplementary_4cfef_51 : decode cJ2_indexOfSupplementary_4cfef 51 = .ok (.iadd, 1) := by decide +kernel
theorem dJ2_indexOfSupplementary_4cfef_52 : decode cJ2_indexOfSupplementary_4cfef 52 = .ok (.invokestatic 71, 3) := by decide +kernel
theorem dJ2_indexOfSupplementary_4cfef_55 : decode cJ2_indexOfSupplementary_4cfef 55 = .ok (.iload 5, 2) := by decide +kernel
theorem dJ2_indexOfSupplementary_4cfef_57 : decode cJ2_indexOfSupplementary_4cfef 57 = .ok (.if_icmp .ne 6, 3) := by decide +kernel
theorem dJ2_indexOfSupplementary_4cfef_60 : decode cJ2_indexOfSupplementary_4cfef 60 = .ok (.iload 6, 2) := by decide +kernel
theorem dJ2_indexOfSupplementary_4cfef_62 : decode cJ2_indexOfSupplementary_4cfef 62 = .ok (.ireturn, 1) := by decide +kernel
theorem dJ2_indexOfSupplementary_4cfef_63 : decode cJ2_indexOfSupplementary_4cfef 63 = .ok (.iinc 6 1, 3) := by decide +kernel
theorem dJ2_indexOfSupplementary_4cfef_66 : decode cJ2_indexOfSupplementary_4cfef 66 = .ok (.goto (-38), 3) := by decide +kernel
theorem dJ2_indexOfSupplementary_4cfef_69 : decode cJ2_indexOfSupplementary_4cfef 69 = .ok (.iconst (-1), 1) := by decide +kernel
theorem dJ2_indexOfSupplementary_4cfef_70 : decode cJ2_indexOfSupplementary_4cfef 70 = .ok (.ireturn, 1) := by decide +kernel
theorem dJ2_checkBoundsBeginEnd_d044e_0 : decode cJ2_checkBoundsBeginEnd_d044e 0 = .ok (.iload_n 0, 1) := by decide +kernel
theorem dJ2_checkBoundsBeginEnd_d044e_1 : decode cJ2_checkBoundsBeginEnd_d044e 1 = .ok (.iload_n 1, 1) := by decide +kernel
theorem dJ2_checkBoundsBeginEnd_d044e_2 : decode cJ2_checkBoundsBeginEnd_d044e 2 = .ok (.aload_n 2, 1) := by decide +kernel
theorem dJ2_checkBoundsBeginEnd_d044e_3 : decode cJ2_checkBoundsBeginEnd_d044e 3 = .ok (.invokestatic 48, 3) := by decide +kernel
theorem dJ2_checkBoundsBeginEnd_d044e_6 : decode cJ2_checkBoundsBeginEnd_d044e 6 = .ok (.invokestatic 241, 3) := by decide +kernel
theorem dJ2_checkBoundsBeginEnd_d044e_9 : decode cJ2_checkBoundsBeginEnd_d044e 9 = .ok (.return_, 1) := by decide +kernel
theorem dJ3_checkFromToIndex_8c36e_0 : decode cJ3_checkFromToIndex_8c36e 0 = .ok (.iload_n 0, 1) := by decide +kernel
theorem dJ3_checkFromToIndex_8c36e_1 : decode cJ3_checkFromToIndex_8c36e 1 = .ok (.ifCond .lt 13, 3) := by decide +kernel
theorem dJ3_checkFromToIndex_8c36e_4 : decode cJ3_checkFromToIndex_8c36e 4 = .ok (.iload_n 0, 1) := by decide +kernel
theorem dJ3_checkFromToIndex_8c36e_5 : decode cJ3_checkFromToIndex_8c36e 5 = .ok (.iload_n 1, 1) := by decide +kernel
theorem dJ3_checkFromToIndex_8c36e_6 : decode cJ3_checkFromToIndex_8c36e 6 = .ok (.if_icmp .gt 8, 3) := by decide +kernel
theorem dJ3_checkFromToIndex_8c36e_9 : decode cJ3_checkFromToIndex_8c36e 9 = .ok (.iload_n 1, 1) := by decide +kernel
theorem dJ3_checkFromToIndex_8c36e_10 : decode cJ3_checkFromToIndex_8c36e 10 = .ok (.iload_n 2, 1) := by decide +kernel
theorem dJ3_checkFromToIndex_8c36e_11 : decode cJ3_checkFromToIndex_8c36e 11 = .ok (.if_icmp .le 11, 3) := by decide +kernel
theorem dJ3_checkFromToIndex_8c36e_14 : decode cJ3_checkFromToIndex_8c36e 14 = .ok (.aload_n 3, 1) := by decide +kernel
theorem dJ3_checkFromToIndex_8c36e_15 : decode cJ3_checkFromToIndex_8c36e 15 = .ok (.iload_n 0, 1) := by decide +kernel
theorem dJ3_checkFromToIndex_8c36e_16 : decode cJ3_checkFromToIndex_8c36e 16 = .ok (.iload_n 1, 1) := by decide +kernel
theorem dJ3_checkFromToIndex_8c36e_17 : decode cJ3_checkFromToIndex_8c36e 17 = .ok (.iload_n 2, 1) := by decide +kernel
theorem dJ3_checkFromToIndex_8c36e_18 : decode cJ3_checkFromToIndex_8c36e 18 = .ok (.invokestatic 99, 3) := by decide +kernel
theorem dJ3_checkFromToIndex_8c36e_21 : decode cJ3_checkFromToIndex_8c36e 21 = .ok (.athrow, 1) := by decide +kernel
theorem dJ3_checkFromToIndex_8c36e_22 : decode cJ3_checkFromToIndex_8c36e 22 = .ok (.iload_n 0, 1) := by decide +kernel
theorem dJ3_checkFromToIndex_8c36e_23 : decode cJ3_checkFromToIndex_8c36e 23 = .ok (.ireturn, 1) := by decide +kernel
