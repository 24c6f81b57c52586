theorem dL_boat_0 : decode cL_boat 0 = .ok (.aload_n 1, 1) := by decide +kernel
theorem dL_boat_1 : decode cL_boat 1 = .ok (.iconst 0, 1) := by decide +kernel
theorem dL_boat_2 : decode cL_boat 2 = .ok (.aload_n 0, 1) := by decide +kernel
theorem dL_boat_3 : decode cL_boat 3 = .ok (.invokevirtual 7, 3) := by decide +kernel
theorem dL_boat_6 : decode cL_boat 6 = .ok (.i2l, 1) := by decide +kernel
theorem dL_boat_7 : decode cL_boat 7 = .ok (.lastore, 1) := by decide +kernel
theorem dL_boat_8 : decode cL_boat 8 = .ok (.goto 9, 3) := by decide +kernel
theorem dL_boat_11 : decode cL_boat 11 = .ok (.astore_n 2, 1) := by decide +kernel
theorem dL_boat_12 : decode cL_boat 12 = .ok (.iconst 1, 1) := by decide +kernel
theorem dL_boat_13 : decode cL_boat 13 = .ok (.ireturn, 1) := by decide +kernel
theorem dL_boat_14 : decode cL_boat 14 = .ok (.astore_n 2, 1) := by decide +kernel
theorem dL_boat_15 : decode cL_boat 15 = .ok (.iconst 2, 1) := by decide +kernel
theorem dL_boat_16 : decode cL_boat 16 = .ok (.ireturn, 1) := by decide +kernel
theorem dL_boat_17 : decode cL_boat 17 = .ok (.iconst 0, 1) := by decide +kernel
theorem dL_boat_18 : decode cL_boat 18 = .ok (.ireturn, 1) := by decide +kernel
theorem dL_race_0 : decode cL_race 0 = .ok (.aload_n 3, 1) := by decide +kernel
theorem dL_race_1 : decode cL_race 1 = .ok (.iconst 0, 1) := by decide +kernel
theorem dL_race_2 : decode cL_race 2 = .ok (.aload_n 0, 1) := by decide +kernel
theorem dL_race_3 : decode cL_race 3 = .ok (.iload_n 1, 1) := by decide +kernel
theorem dL_race_4 : decode cL_race 4 = .ok (.iload_n 2, 1) := by decide +kernel
theorem dL_race_5 : decode cL_race 5 = .ok (.invokevirtual 17, 3) := by decide +kernel
theorem dL_race_8 : decode cL_race 8 = .ok (.i2l, 1) := by decide +kernel
theorem dL_race_9 : decode cL_race 9 = .ok (.lastore, 1) := by decide +kernel
theorem dL_race_10 : decode cL_race 10 = .ok (.goto 15, 3) := by decide +kernel
theorem dL_race_13 : decode cL_race 13 = .ok (.astore 4, 2) := by decide +kernel
theorem dL_race_15 : decode cL_race 15 = .ok (.iconst 1, 1) := by decide +kernel
theorem dL_race_16 : decode cL_race 16 = .ok (.ireturn, 1) := by decide +kernel
theorem dL_race_17 : decode cL_race 17 = .ok (.astore 4, 2) := by decide +kernel
theorem dL_race_19 : decode cL_race 19 = .ok (.iconst 2, 1) := by decide +kernel
theorem dL_race_20 : decode cL_race 20 = .ok (.ireturn, 1) := by decide +kernel
theorem dL_race_21 : decode cL_race 21 = .ok (.astore 4, 2) := by decide +kernel
theorem dL_race_23 : decode cL_race 23 = .ok (.iconst 3, 1) := by decide +kernel
theorem dL_race_24 : decode cL_race 24 = .ok (.ireturn, 1) := by decide +kernel
theorem dL_race_25 : decode cL_race 25 = .ok (.iconst 0, 1) := by decide +kernel
theorem dL_race_26 : decode cL_race 26 = .ok (.ireturn, 1) := by decide +kernel
theorem dL_abandon_0 : decode cL_abandon 0 = .ok (.aload_n 3, 1) := by decide +kernel
theorem dL_abandon_1 : decode cL_abandon 1 = .ok (.iconst 0, 1) := by decide +kernel
theorem dL_abandon_2 : decode cL_abandon 2 = .ok (.aload_n 0, 1) := by decide +kernel
theorem dL_abandon_3 : decode cL_abandon 3 = .ok (.iload_n 1, 1) := by decide +kernel
theorem dL_abandon_4 : decode cL_abandon 4 = .ok (.iload_n 2, 1) := by decide +kernel
theorem dL_abandon_5 : decode cL_abandon 5 = .ok (.invokevirtual 23, 3) := by decide +kernel
theorem dL_abandon_8 : decode cL_abandon 8 = .ok (.ifCond .eq 7, 3) := by decide +kernel
theorem dL_abandon_11 : decode cL_abandon 11 = .ok (.lconst 1, 1) := by decide +kernel
theorem dL_abandon_12 : decode cL_abandon 12 = .ok (.goto 4, 3) := by decide +kernel
theorem dL_abandon_15 : decode cL_abandon 15 = .ok (.lconst 0, 1) := by decide +kernel
theorem dL_abandon_16 : decode cL_abandon 16 = .ok (.lastore, 1) := by decide +kernel
theorem dL_abandon_17 : decode cL_abandon 17 = .ok (.goto 7, 3) := by decide +kernel
theorem dL_abandon_20 : decode cL_abandon 20 = .ok (.astore 4, 2) := by decide +kernel
theorem dL_abandon_22 : decode cL_abandon 22 = .ok (.iconst 1, 1) := by decide +kernel
theorem dL_abandon_23 : decode cL_abandon 23 = .ok (.ireturn, 1) := by decide +kernel
theorem dL_abandon_24 : decode cL_abandon 24 = .ok (.iconst 0, 1) := by decide +kernel
theorem dL_abandon_25 : decode cL_abandon 25 = .ok (.ireturn, 1) := by decide +kernel
theorem dL_finish_0 : decode cL_finish 0 = .ok (.aload_n 0, 1) := by decide +kernel
theorem dL_finish_1 : decode cL_finish 1 = .ok (.iload_n 1, 1) := by decide +kernel
theorem dL_finish_2 : decode cL_finish 2 = .ok (.iload_n 2, 1) := by decide +kernel
theorem dL_finish_3 : decode cL_finish 3 = .ok (.iload_n 3, 1) := by decide +kernel
theorem dL_finish_4 : decode cL_finish 4 = .ok (.invokevirtual 29, 3) := by decide +kernel
theorem dL_finish_7 : decode cL_finish 7 = .ok (.goto 15, 3) := by decide +kernel
theorem dL_finish_10 : decode cL_finish 10 = .ok (.astore 4, 2) := by decide +kernel
theorem dL_finish_12 : decode cL_finish 12 = .ok (.iconst 1, 1) := by decide +kernel
theorem dL_finish_13 : decode cL_finish 13 = .ok (.ireturn, 1) := by decide +kernel
theorem dL_finish_14 : decode cL_finish 14 = .ok (.astore 4, 2) := by decide +kernel
theorem dL_finish_16 : decode cL_finish 16 = .ok (.iconst 2, 1) := by decide +kernel
theorem dL_finish_17 : decode cL_finish 17 = .ok (.ireturn, 1) := by decide +kernel
theorem dL_finish_18 : decode cL_finish 18 = .ok (.astore 4, 2) := by decide +kernel
theorem dL_finish_20 : decode cL_finish 20 = .ok (.iconst 3, 1) := by decide +kernel
theorem dL_finish_21 : decode cL_finish 21 = .ok (.ireturn, 1) := by decide +kernel
theorem dL_finish_22 : decode cL_finish 22 = .ok (.iconst 0, 1) := by decide +kernel
theorem dL_finish_23 : decode cL_finish 23 = .ok (.ireturn, 1) := by decide +kernel
theorem dL_code_0 : decode cL_code 0 = .ok (.aload_n 0, 1) := by decide +kernel
theorem dL_code_1 : decode cL_code 1 = .ok (.iload_n 1, 1) := by decide +kernel
theorem dL_code_2 : decode cL_code 2 = .ok (.iload_n 2, 1) := by decide +kernel
theorem dL_code_3 : decode cL_code 3 = .ok (.iload_n 3, 1) := by decide +kernel
theorem dL_code_4 : decode cL_code 4 = .ok (.iload 4, 2) := by decide +kernel
theorem dL_code_6 : decode cL_code 6 = .ok (.invokevirtual 33, 3) := by decide +kernel
theorem dL_code_9 : decode cL_code 9 = .ok (.goto 15, 3) := by decide +kernel
theorem dL_code_12 : decode cL_code 12 = .ok (.astore 5, 2) := by decide +kernel
theorem dL_code_14 : decode cL_code 14 = .ok (.iconst 1, 1) := by decide +kernel
theorem dL_code_15 : decode cL_code 15 = .ok (.ireturn, 1) := by decide +kernel
theorem dL_code_16 : decode cL_code 16 = .ok (.astore 5, 2) := by decide +kernel
theorem dL_code_18 : decode cL_code 18 = .ok (.iconst 2, 1) := by decide +kernel
theorem dL_code_19 : decode cL_code 19 = .ok (.ireturn, 1) := by decide +kernel
theorem dL_code_20 : decode cL_code 20 = .ok (.astore 5, 2) := by decide +kernel
theorem dL_code_22 : decode cL_code 22 = .ok (.iconst 3, 1) := by decide +kernel
theorem dL_code_23 : decode cL_code 23 = .ok (.ireturn, 1) := by decide +kernel
theorem dL_code_24 : decode cL_code 24 = .ok (.iconst 0, 1) := by decide +kernel
theorem dL_code_25 : decode cL_code 25 = .ok (.ireturn, 1) := by decide +kernel
theorem dL_penalty_0 : decode cL_penalty 0 = .ok (.aload_n 0, 1) := by decide +kernel
theorem dL_penalty_1 : decode cL_penalty 1 = .ok (.iload_n 1, 1) := by decide +kernel
theorem dL_penalty_2 : decode cL_penalty 2 = .ok (.iload_n 2, 1) := by decide +kernel
theorem dL_penalty_3 : decode cL_penalty 3 = .ok (.iload_n 3, 1) := by decide +kernel
theorem dL_penalty_4 : decode cL_penalty 4 = .ok (.invokevirtual 37, 3) := by decide +kernel
theorem dL_penalty_7 : decode cL_penalty 7 = .ok (.goto 15, 3) := by decide +kernel
theorem dL_penalty_10 : decode cL_penalty 10 = .ok (.astore 4, 2) := by decide +kernel
theorem dL_penalty_12 : decode cL_penalty 12 = .ok (.iconst 1, 1) := by decide +kernel
theorem dL_penalty_13 : decode cL_penalty 13 = .ok (.ireturn, 1) := by decide +kernel
theorem dL_penalty_14 : decode cL_penalty 14 = .ok (.astore 4, 2) := by decide +kernel
theorem dL_penalty_16 : decode cL_penalty 16 = .ok (.iconst 2, 1) := by decide +kernel
theorem dL_penalty_17 : decode cL_penalty 17 = .ok (.ireturn, 1) := by decide +kernel
theorem dL_penalty_18 : decode cL_penalty 18 = .ok (.astore 4, 2) := by decide +kernel
theorem dL_penalty_20 : decode cL_penalty 20 = .ok (.iconst 3, 1) := by decide +kernel
theorem dL_penalty_21 : decode cL_penalty 21 = .ok (.ireturn, 1) := by decide +kernel
theorem dL_penalty_22 : decode cL_penalty 22 = .ok (.iconst 0, 1) := by decide +kernel
theorem dL_penalty_23 : decode cL_penalty 23 = .ok (.ireturn, 1) := by decide +kernel
theorem dL_clear_0 : decode cL_clear 0 = .ok (.aload_n 3, 1) := by decide +kernel
theorem dL_clear_1 : decode cL_clear 1 = .ok (.iconst 0, 1) := by decide +kernel
theorem dL_clear_2 : decode cL_clear 2 = .ok (.aload_n 0, 1) := by decide +kernel
theorem dL_clear_3 : decode cL_clear 3 = .ok (.iload_n 1, 1) := by decide +kernel
theorem dL_clear_4 : decode cL_clear 4 = .ok (.iload_n 2, 1) := by decide +kernel
theorem dL_clear_5 : decode cL_clear 5 = .ok (.invokevirtual 40, 3) := by decide +kernel
theorem dL_clear_8 : decode cL_clear 8 = .ok (.ifCond .eq 7, 3) := by decide +kernel
theorem dL_clear_11 : decode cL_clear 11 = .ok (.lconst 1, 1) := by decide +kernel
theorem dL_clear_12 : decode cL_clear 12 = .ok (.goto 4, 3) := by decide +kernel
theorem dL_clear_15 : decode cL_clear 15 = .ok (.lconst 0, 1) := by decide +kernel
theorem dL_clear_16 : decode cL_clear 16 = .ok (.lastore, 1) := by decide +kernel
theorem dL_clear_17 : decode cL_clear 17 = .ok (.goto 7, 3) := by decide +kernel
theorem dL_clear_20 : decode cL_clear 20 = .ok (.astore 4, 2) := by decide +kernel
theorem dL_clear_22 : decode cL_clear 22 = .ok (.iconst 1, 1) := by decide +kernel
theorem dL_clear_23 : decode cL_clear 23 = .ok (.ireturn, 1) := by decide +kernel
theorem dL_clear_24 : decode cL_clear 24 = .ok (.iconst 0, 1) := by decide +kernel
theorem dL_clear_25 : decode cL_clear 25 = .ok (.ireturn, 1) := by decide +kernel
theorem dL_protest_0 : decode cL_protest 0 = .ok (.aload 5, 2) := by decide +kernel
theorem dL_protest_2 : decode cL_protest 2 = .ok (.iconst 0, 1) := by decide +kernel
theorem dL_protest_3 : decode cL_protest 3 = .ok (.aload_n 0, 1) := by decide +kernel
theorem dL_protest_4 : decode cL_protest 4 = .ok (.iload_n 1, 1) := by decide +kernel
theorem dL_protest_5 : decode cL_protest 5 = .ok (.iload_n 2, 1) := by decide +kernel
theorem dL_protest_6 : decode cL_protest 6 = .ok (.iload_n 3, 1) := by decide +kernel
theorem dL_protest_7 : decode cL_protest 7 = .ok (.iload 4, 2) := by decide +kernel
theorem dL_protest_9 : decode cL_protest 9 = .ok (.invokevirtual 44, 3) := by decide +kernel
theorem dL_protest_12 : decode cL_protest 12 = .ok (.i2l, 1) := by decide +kernel
theorem dL_protest_13 : decode cL_protest 13 = .ok (.lastore, 1) := by decide +kernel
theorem dL_protest_14 : decode cL_protest 14 = .ok (.goto 19, 3) := by decide +kernel
theorem dL_protest_17 : decode cL_protest 17 = .ok (.astore 6, 2) := by decide +kernel
theorem dL_protest_19 : decode cL_protest 19 = .ok (.iconst 1, 1) := by decide +kernel
theorem dL_protest_20 : decode cL_protest 20 = .ok (.ireturn, 1) := by decide +kernel
theorem dL_protest_21 : decode cL_protest 21 = .ok (.astore 6, 2) := by decide +kernel
theorem dL_protest_23 : decode cL_protest 23 = .ok (.iconst 2, 1) := by decide +kernel
theorem dL_protest_24 : decode cL_protest 24 = .ok (.ireturn, 1) := by decide +kernel
theorem dL_protest_25 : decode cL_protest 25 = .ok (.astore 6, 2) := by decide +kernel
theorem dL_protest_27 : decode cL_protest 27 = .ok (.iconst 3, 1) := by decide +kernel
theorem dL_protest_28 : decode cL_protest 28 = .ok (.ireturn, 1) := by decide +kernel
theorem dL_protest_29 : decode cL_protest 29 = .ok (.astore 6, 2) := by decide +kernel
theorem dL_protest_31 : decode cL_protest 31 = .ok (.iconst 4, 1) := by decide +kernel
theorem dL_protest_32 : decode cL_protest 32 = .ok (.ireturn, 1) := by decide +kernel
theorem dL_protest_33 : decode cL_protest 33 = .ok (.iconst 0, 1) := by decide +kernel
theorem dL_protest_34 : decode cL_protest 34 = .ok (.ireturn, 1) := by decide +kernel
theorem dL_reopen_0 : decode cL_reopen 0 = .ok (.aload_n 0, 1) := by decide +kernel
theorem dL_reopen_1 : decode cL_reopen 1 = .ok (.iload_n 1, 1) := by decide +kernel
theorem dL_reopen_2 : decode cL_reopen 2 = .ok (.invokevirtual 48, 3) := by decide +kernel
theorem dL_reopen_5 : decode cL_reopen 5 = .ok (.goto 9, 3) := by decide +kernel
theorem dL_reopen_8 : decode cL_reopen 8 = .ok (.astore_n 2, 1) := by decide +kernel
theorem dL_reopen_9 : decode cL_reopen 9 = .ok (.iconst 1, 1) := by decide +kernel
theorem dL_reopen_10 : decode cL_reopen 10 = .ok (.ireturn, 1) := by decide +kernel
theorem dL_reopen_11 : decode cL_reopen 11 = .ok (.astore_n 2, 1) := by decide +kernel
theorem dL_reopen_12 : decode cL_reopen 12 = .ok (.iconst 2, 1) := by decide +kernel
theorem dL_reopen_13 : decode cL_reopen 13 = .ok (.ireturn, 1) := by decide +kernel
theorem dL_reopen_14 : decode cL_reopen 14 = .ok (.iconst 0, 1) := by decide +kernel
theorem dL_reopen_15 : decode cL_reopen 15 = .ok (.ireturn, 1) := by decide +kernel
theorem dL_discards_0 : decode cL_discards 0 = .ok (.aload_n 0, 1) := by decide +kernel
theorem dL_discards_1 : decode cL_discards 1 = .ok (.iload_n 1, 1) := by decide +kernel
theorem dL_discards_2 : decode cL_discards 2 = .ok (.iload_n 2, 1) := by decide +kernel
theorem dL_discards_3 : decode cL_discards 3 = .ok (.invokevirtual 52, 3) := by decide +kernel
theorem dL_discards_6 : decode cL_discards 6 = .ok (.goto 9, 3) := by decide +kernel
theorem dL_discards_9 : decode cL_discards 9 = .ok (.astore_n 3, 1) := by decide +kernel
theorem dL_discards_10 : decode cL_discards 10 = .ok (.iconst 1, 1) := by decide +kernel
theorem dL_discards_11 : decode cL_discards 11 = .ok (.ireturn, 1) := by decide +kernel
theorem dL_discards_12 : decode cL_discards 12 = .ok (.astore_n 3, 1) := by decide +kernel
theorem dL_discards_13 : decode cL_discards 13 = .ok (.iconst 2, 1) := by decide +kernel
theorem dL_discards_14 : decode cL_discards 14 = .ok (.ireturn, 1) := by decide +kernel
theorem dL_discards_15 : decode cL_discards 15 = .ok (.iconst 0, 1) := by decide +kernel
theorem dL_discards_16 : decode cL_discards 16 = .ok (.ireturn, 1) := by decide +kernel
theorem dL_lot_0 : decode cL_lot 0 = .ok (.aload_n 3, 1) := by decide +kernel
theorem dL_lot_1 : decode cL_lot 1 = .ok (.iconst 0, 1) := by decide +kernel
theorem dL_lot_2 : decode cL_lot 2 = .ok (.aload_n 0, 1) := by decide +kernel
theorem dL_lot_3 : decode cL_lot 3 = .ok (.iload_n 1, 1) := by decide +kernel
theorem dL_lot_4 : decode cL_lot 4 = .ok (.iload_n 2, 1) := by decide +kernel
theorem dL_lot_5 : decode cL_lot 5 = .ok (.invokevirtual 56, 3) := by decide +kernel
theorem dL_lot_8 : decode cL_lot 8 = .ok (.i2l, 1) := by decide +kernel
theorem dL_lot_9 : decode cL_lot 9 = .ok (.lastore, 1) := by decide +kernel
theorem dL_lot_10 : decode cL_lot 10 = .ok (.goto 11, 3) := by decide +kernel
theorem dL_lot_13 : decode cL_lot 13 = .ok (.astore 4, 2) := by decide +kernel
theorem dL_lot_15 : decode cL_lot 15 = .ok (.iconst 1, 1) := by decide +kernel
theorem dL_lot_16 : decode cL_lot 16 = .ok (.ireturn, 1) := by decide +kernel
theorem dL_lot_17 : decode cL_lot 17 = .ok (.astore 4, 2) := by decide +kernel
theorem dL_lot_19 : decode cL_lot 19 = .ok (.iconst 2, 1) := by decide +kernel
theorem dL_lot_20 : decode cL_lot 20 = .ok (.ireturn, 1) := by decide +kernel
theorem dL_lot_21 : decode cL_lot 21 = .ok (.iconst 0, 1) := by decide +kernel
theorem dL_lot_22 : decode cL_lot 22 = .ok (.ireturn, 1) := by decide +kernel
theorem dL_split_0 : decode cL_split 0 = .ok (.aload_n 3, 1) := by decide +kernel
theorem dL_split_1 : decode cL_split 1 = .ok (.iconst 0, 1) := by decide +kernel
theorem dL_split_2 : decode cL_split 2 = .ok (.aload_n 0, 1) := by decide +kernel
theorem dL_split_3 : decode cL_split 3 = .ok (.iload_n 1, 1) := by decide +kernel
theorem dL_split_4 : decode cL_split 4 = .ok (.iload_n 2, 1) := by decide +kernel
theorem dL_split_5 : decode cL_split 5 = .ok (.invokevirtual 59, 3) := by decide +kernel
theorem dL_split_8 : decode cL_split 8 = .ok (.i2l, 1) := by decide +kernel
theorem dL_split_9 : decode cL_split 9 = .ok (.lastore, 1) := by decide +kernel
theorem dL_split_10 : decode cL_split 10 = .ok (.goto 11, 3) := by decide +kernel
theorem dL_split_13 : decode cL_split 13 = .ok (.astore 4, 2) := by decide +kernel
theorem dL_split_15 : decode cL_split 15 = .ok (.iconst 1, 1) := by decide +kernel
theorem dL_split_16 : decode cL_split 16 = .ok (.ireturn, 1) := by decide +kernel
theorem dL_split_17 : decode cL_split 17 = .ok (.astore 4, 2) := by decide +kernel
theorem dL_split_19 : decode cL_split 19 = .ok (.iconst 2, 1) := by decide +kernel
theorem dL_split_20 : decode cL_split 20 = .ok (.ireturn, 1) := by decide +kernel
theorem dL_split_21 : decode cL_split 21 = .ok (.iconst 0, 1) := by decide +kernel
theorem dL_split_22 : decode cL_split 22 = .ok (.ireturn, 1) := by decide +kernel
theorem dL_points_0 : decode cL_points 0 = .ok (.aload_n 3, 1) := by decide +kernel
theorem dL_points_1 : decode cL_points 1 = .ok (.iconst 0, 1) := by decide +kernel
theorem dL_points_2 : decode cL_points 2 = .ok (.aload_n 0, 1) := by decide +kernel
theorem dL_points_3 : decode cL_points 3 = .ok (.iload_n 1, 1) := by decide +kernel
theorem dL_points_4 : decode cL_points 4 = .ok (.iload_n 2, 1) := by decide +kernel
theorem dL_points_5 : decode cL_points 5 = .ok (.invokevirtual 62, 3) := by decide +kernel
theorem dL_points_8 : decode cL_points 8 = .ok (.i2l, 1) := by decide +kernel
theorem dL_points_9 : decode cL_points 9 = .ok (.lastore, 1) := by decide +kernel
theorem dL_points_10 : decode cL_points 10 = .ok (.goto 7, 3) := by decide +kernel
theorem dL_points_13 : decode cL_points 13 = .ok (.astore 4, 2) := by decide +kernel
theorem dL_points_15 : decode cL_points 15 = .ok (.iconst 1, 1) := by decide +kernel
theorem dL_points_16 : decode cL_points 16 = .ok (.ireturn, 1) := by decide +kernel
theorem dL_points_17 : decode cL_points 17 = .ok (.iconst 0, 1) := by decide +kernel
theorem dL_points_18 : decode cL_points 18 = .ok (.ireturn, 1) := by decide +kernel
theorem dL_isDiscard_0 : decode cL_isDiscard 0 = .ok (.aload_n 3, 1) := by decide +kernel
theorem dL_isDiscard_1 : decode cL_isDiscard 1 = .ok (.iconst 0, 1) := by decide +kernel
theorem dL_isDiscard_2 : decode cL_isDiscard 2 = .ok (.aload_n 0, 1) := by decide +kernel
theorem dL_isDiscard_3 : decode cL_isDiscard 3 = .ok (.iload_n 1, 1) := by decide +kernel
theorem dL_isDiscard_4 : decode cL_isDiscard 4 = .ok (.iload_n 2, 1) := by decide +kernel
theorem dL_isDiscard_5 : decode cL_isDiscard 5 = .ok (.invokevirtual 65, 3) := by decide +kernel
theorem dL_isDiscard_8 : decode cL_isDiscard 8 = .ok (.ifCond .eq 7, 3) := by decide +kernel
theorem dL_isDiscard_11 : decode cL_isDiscard 11 = .ok (.lconst 1, 1) := by decide +kernel
theorem dL_isDiscard_12 : decode cL_isDiscard 12 = .ok (.goto 4, 3) := by decide +kernel
theorem dL_isDiscard_15 : decode cL_isDiscard 15 = .ok (.lconst 0, 1) := by decide +kernel
theorem dL_isDiscard_16 : decode cL_isDiscard 16 = .ok (.lastore, 1) := by decide +kernel
theorem dL_isDiscard_17 : decode cL_isDiscard 17 = .ok (.goto 7, 3) := by decide +kernel
theorem dL_isDiscard_20 : decode cL_isDiscard 20 = .ok (.astore 4, 2) := by decide +kernel
theorem dL_isDiscard_22 : decode cL_isDiscard 22 = .ok (.iconst 1, 1) := by decide +kernel
theorem dL_isDiscard_23 : decode cL_isDiscard 23 = .ok (.ireturn, 1) := by decide +kernel
theorem dL_isDiscard_24 : decode cL_isDiscard 24 = .ok (.iconst 0, 1) := by decide +kernel
theorem dL_isDiscard_25 : decode cL_isDiscard 25 = .ok (.ireturn, 1) := by decide +kernel
theorem dL_net_0 : decode cL_net 0 = .ok (.aload_n 2, 1) := by decide +kernel
theorem dL_net_1 : decode cL_net 1 = .ok (.iconst 0, 1) := by decide +kernel
theorem dL_net_2 : decode cL_net 2 = .ok (.aload_n 0, 1) := by decide +kernel
theorem dL_net_3 : decode cL_net 3 = .ok (.iload_n 1, 1) := by decide +kernel
theorem dL_net_4 : decode cL_net 4 = .ok (.invokevirtual 68, 3) := by decide +kernel
theorem dL_net_7 : decode cL_net 7 = .ok (.i2l, 1) := by decide +kernel
theorem dL_net_8 : decode cL_net 8 = .ok (.lastore, 1) := by decide +kernel
theorem dL_net_9 : decode cL_net 9 = .ok (.goto 6, 3) := by decide +kernel
theorem dL_net_12 : decode cL_net 12 = .ok (.astore_n 3, 1) := by decide +kernel
theorem dL_net_13 : decode cL_net 13 = .ok (.iconst 1, 1) := by decide +kernel
theorem dL_net_14 : decode cL_net 14 = .ok (.ireturn, 1) := by decide +kernel
theorem dL_net_15 : decode cL_net 15 = .ok (.iconst 0, 1) := by decide +kernel
theorem dL_net_16 : decode cL_net 16 = .ok (.ireturn, 1) := by decide +kernel
theorem dL_gross_0 : decode cL_gross 0 = .ok (.aload_n 2, 1) := by decide +kernel
theorem dL_gross_1 : decode cL_gross 1 = .ok (.iconst 0, 1) := by decide +kernel
theorem dL_gross_2 : decode cL_gross 2 = .ok (.aload_n 0, 1) := by decide +kernel
theorem dL_gross_3 : decode cL_gross 3 = .ok (.iload_n 1, 1) := by decide +kernel
theorem dL_gross_4 : decode cL_gross 4 = .ok (.invokevirtual 72, 3) := by decide +kernel
theorem dL_gross_7 : decode cL_gross 7 = .ok (.i2l, 1) := by decide +kernel
theorem dL_gross_8 : decode cL_gross 8 = .ok (.lastore, 1) := by decide +kernel
theorem dL_gross_9 : decode cL_gross 9 = .ok (.goto 6, 3) := by decide +kernel
theorem dL_gross_12 : decode cL_gross 12 = .ok (.astore_n 3, 1) := by decide +kernel
theorem dL_gross_13 : decode cL_gross 13 = .ok (.iconst 1, 1) := by decide +kernel
theorem dL_gross_14 : decode cL_gross 14 = .ok (.ireturn, 1) := by decide +kernel
theorem dL_gross_15 : decode cL_gross 15 = .ok (.iconst 0, 1) := by decide +kernel
theorem dL_gross_16 : decode cL_gross 16 = .ok (.ireturn, 1) := by decide +kernel
theorem dL_mean_0 : decode cL_mean 0 = .ok (.aload_n 2, 1) := by decide +kernel
theorem dL_mean_1 : decode cL_mean 1 = .ok (.iconst 0, 1) := by decide +kernel
theorem dL_mean_2 : decode cL_mean 2 = .ok (.aload_n 0, 1) := by decide +kernel
theorem dL_mean_3 : decode cL_mean 3 = .ok (.iload_n 1, 1) := by decide +kernel
theorem dL_mean_4 : decode cL_mean 4 = .ok (.invokevirtual 75, 3) := by decide +kernel
theorem dL_mean_7 : decode cL_mean 7 = .ok (.dastore, 1) := by decide +kernel
theorem dL_mean_8 : decode cL_mean 8 = .ok (.goto 6, 3) := by decide +kernel
theorem dL_mean_11 : decode cL_mean 11 = .ok (.astore_n 3, 1) := by decide +kernel
theorem dL_mean_12 : decode cL_mean 12 = .ok (.iconst 1, 1) := by decide +kernel
theorem dL_mean_13 : decode cL_mean 13 = .ok (.ireturn, 1) := by decide +kernel
theorem dL_mean_14 : decode cL_mean 14 = .ok (.iconst 0, 1) := by decide +kernel
theorem dL_mean_15 : decode cL_mean 15 = .ok (.ireturn, 1) := by decide +kernel
theorem dL_rank_0 : decode cL_rank 0 = .ok (.aload_n 2, 1) := by decide +kernel
theorem dL_rank_1 : decode cL_rank 1 = .ok (.iconst 0, 1) := by decide +kernel
theorem dL_rank_2 : decode cL_rank 2 = .ok (.aload_n 0, 1) := by decide +kernel
theorem dL_rank_3 : decode cL_rank 3 = .ok (.iload_n 1, 1) := by decide +kernel
theorem dL_rank_4 : decode cL_rank 4 = .ok (.invokevirtual 79, 3) := by decide +kernel
theorem dL_rank_7 : decode cL_rank 7 = .ok (.i2l, 1) := by decide +kernel
theorem dL_rank_8 : decode cL_rank 8 = .ok (.lastore, 1) := by decide +kernel
theorem dL_rank_9 : decode cL_rank 9 = .ok (.goto 6, 3) := by decide +kernel
theorem dL_rank_12 : decode cL_rank 12 = .ok (.astore_n 3, 1) := by decide +kernel
theorem dL_rank_13 : decode cL_rank 13 = .ok (.iconst 1, 1) := by decide +kernel
theorem dL_rank_14 : decode cL_rank 14 = .ok (.ireturn, 1) := by decide +kernel
theorem dL_rank_15 : decode cL_rank 15 = .ok (.iconst 0, 1) := by decide +kernel
theorem dL_rank_16 : decode cL_rank 16 = .ok (.ireturn, 1) := by decide +kernel
theorem dL_at_0 : decode cL_at 0 = .ok (.aload_n 2, 1) := by decide +kernel
theorem dL_at_1 : decode cL_at 1 = .ok (.iconst 0, 1) := by decide +kernel
theorem dL_at_2 : decode cL_at 2 = .ok (.aload_n 0, 1) := by decide +kernel
theorem dL_at_3 : decode cL_at 3 = .ok (.iload_n 1, 1) := by decide +kernel
theorem dL_at_4 : decode cL_at 4 = .ok (.invokevirtual 82, 3) := by decide +kernel
theorem dL_at_7 : decode cL_at 7 = .ok (.i2l, 1) := by decide +kernel
theorem dL_at_8 : decode cL_at 8 = .ok (.lastore, 1) := by decide +kernel
theorem dL_at_9 : decode cL_at 9 = .ok (.goto 6, 3) := by decide +kernel
theorem dL_at_12 : decode cL_at 12 = .ok (.astore_n 3, 1) := by decide +kernel
theorem dL_at_13 : decode cL_at 13 = .ok (.iconst 1, 1) := by decide +kernel
theorem dL_at_14 : decode cL_at 14 = .ok (.ireturn, 1) := by decide +kernel
theorem dL_at_15 : decode cL_at 15 = .ok (.iconst 0, 1) := by decide +kernel
theorem dL_at_16 : decode cL_at 16 = .ok (.ireturn, 1) := by decide +kernel
theorem dL_tie_0 : decode cL_tie 0 = .ok (.aload_n 3, 1) := by decide +kernel
theorem dL_tie_1 : decode cL_tie 1 = .ok (.iconst 0, 1) := by decide +kernel
theorem dL_tie_2 : decode cL_tie 2 = .ok (.aload_n 0, 1) := by decide +kernel
theorem dL_tie_3 : decode cL_tie 3 = .ok (.iload_n 1, 1) := by decide +kernel
theorem dL_tie_4 : decode cL_tie 4 = .ok (.iload_n 2, 1) := by decide +kernel
theorem dL_tie_5 : decode cL_tie 5 = .ok (.invokevirtual 85, 3) := by decide +kernel
theorem dL_tie_8 : decode cL_tie 8 = .ok (.i2l, 1) := by decide +kernel
theorem dL_tie_9 : decode cL_tie 9 = .ok (.lastore, 1) := by decide +kernel
theorem dL_tie_10 : decode cL_tie 10 = .ok (.goto 11, 3) := by decide +kernel
theorem dL_tie_13 : decode cL_tie 13 = .ok (.astore 4, 2) := by decide +kernel
theorem dL_tie_15 : decode cL_tie 15 = .ok (.iconst 1, 1) := by decide +kernel
theorem dL_tie_16 : decode cL_tie 16 = .ok (.ireturn, 1) := by decide +kernel
theorem dL_tie_17 : decode cL_tie 17 = .ok (.astore 4, 2) := by decide +kernel
theorem dL_tie_19 : decode cL_tie 19 = .ok (.iconst 2, 1) := by decide +kernel
theorem dL_tie_20 : decode cL_tie 20 = .ok (.ireturn, 1) := by decide +kernel
theorem dL_tie_21 : decode cL_tie 21 = .ok (.iconst 0, 1) := by decide +kernel
theorem dL_tie_22 : decode cL_tie 22 = .ok (.ireturn, 1) := by decide +kernel
theorem dL_what_0 : decode cL_what 0 = .ok (.aload 5, 2) := by decide +kernel
theorem dL_what_2 : decode cL_what 2 = .ok (.iconst 0, 1) := by decide +kernel
theorem dL_what_3 : decode cL_what 3 = .ok (.aload_n 0, 1) := by decide +kernel
theorem dL_what_4 : decode cL_what 4 = .ok (.iload_n 1, 1) := by decide +kernel
theorem dL_what_5 : decode cL_what 5 = .ok (.iload_n 2, 1) := by decide +kernel
theorem dL_what_6 : decode cL_what 6 = .ok (.iload_n 3, 1) := by decide +kernel
theorem dL_what_7 : decode cL_what 7 = .ok (.iload 4, 2) := by decide +kernel
theorem dL_what_9 : decode cL_what 9 = .ok (.invokevirtual 88, 3) := by decide +kernel
theorem dL_what_12 : decode cL_what 12 = .ok (.i2l, 1) := by decide +kernel
theorem dL_what_13 : decode cL_what 13 = .ok (.lastore, 1) := by decide +kernel
theorem dL_what_14 : decode cL_what 14 = .ok (.goto 15, 3) := by decide +kernel
theorem dL_what_17 : decode cL_what 17 = .ok (.astore 6, 2) := by decide +kernel
theorem dL_what_19 : decode cL_what 19 = .ok (.iconst 1, 1) := by decide +kernel
theorem dL_what_20 : decode cL_what 20 = .ok (.ireturn, 1) := by decide +kernel
theorem dL_what_21 : decode cL_what 21 = .ok (.astore 6, 2) := by decide +kernel
theorem dL_what_23 : decode cL_what 23 = .ok (.iconst 2, 1) := by decide +kernel
theorem dL_what_24 : decode cL_what 24 = .ok (.ireturn, 1) := by decide +kernel
theorem dL_what_25 : decode cL_what 25 = .ok (.astore 6, 2) := by decide +kernel
theorem dL_what_27 : decode cL_what 27 = .ok (.iconst 3, 1) := by decide +kernel
theorem dL_what_28 : decode cL_what 28 = .ok (.ireturn, 1) := by decide +kernel
theorem dL_what_29 : decode cL_what 29 = .ok (.iconst 0, 1) := by decide +kernel
theorem dL_what_30 : decode cL_what 30 = .ok (.ireturn, 1) := by decide +kernel
theorem dL_missing_0 : decode cL_missing 0 = .ok (.aload_n 3, 1) := by decide +kernel
theorem dL_missing_1 : decode cL_missing 1 = .ok (.iconst 0, 1) := by decide +kernel
theorem dL_missing_2 : decode cL_missing 2 = .ok (.aload_n 0, 1) := by decide +kernel
theorem dL_missing_3 : decode cL_missing 3 = .ok (.iload_n 1, 1) := by decide +kernel
theorem dL_missing_4 : decode cL_missing 4 = .ok (.iload_n 2, 1) := by decide +kernel
theorem dL_missing_5 : decode cL_missing 5 = .ok (.invokevirtual 91, 3) := by decide +kernel
theorem dL_missing_8 : decode cL_missing 8 = .ok (.i2l, 1) := by decide +kernel
theorem dL_missing_9 : decode cL_missing 9 = .ok (.lastore, 1) := by decide +kernel
theorem dL_missing_10 : decode cL_missing 10 = .ok (.goto 7, 3) := by decide +kernel
theorem dL_missing_13 : decode cL_missing 13 = .ok (.astore 4, 2) := by decide +kernel
theorem dL_missing_15 : decode cL_missing 15 = .ok (.iconst 1, 1) := by decide +kernel
theorem dL_missing_16 : decode cL_missing 16 = .ok (.ireturn, 1) := by decide +kernel
theorem dL_missing_17 : decode cL_missing 17 = .ok (.iconst 0, 1) := by decide +kernel
theorem dL_missing_18 : decode cL_missing 18 = .ok (.ireturn, 1) := by decide +kernel
theorem dL_told_0 : decode cL_told 0 = .ok (.aload_n 3, 1) := by decide +kernel
theorem dL_told_1 : decode cL_told 1 = .ok (.iconst 0, 1) := by decide +kernel
theorem dL_told_2 : decode cL_told 2 = .ok (.aload_n 0, 1) := by decide +kernel
theorem dL_told_3 : decode cL_told 3 = .ok (.iload_n 1, 1) := by decide +kernel
theorem dL_told_4 : decode cL_told 4 = .ok (.iload_n 2, 1) := by decide +kernel
theorem dL_told_5 : decode cL_told 5 = .ok (.invokevirtual 94, 3) := by decide +kernel
theorem dL_told_8 : decode cL_told 8 = .ok (.i2l, 1) := by decide +kernel
theorem dL_told_9 : decode cL_told 9 = .ok (.lastore, 1) := by decide +kernel
theorem dL_told_10 : decode cL_told 10 = .ok (.goto 11, 3) := by decide +kernel
theorem dL_told_13 : decode cL_told 13 = .ok (.astore 4, 2) := by decide +kernel
theorem dL_told_15 : decode cL_told 15 = .ok (.iconst 1, 1) := by decide +kernel
theorem dL_told_16 : decode cL_told 16 = .ok (.ireturn, 1) := by decide +kernel
theorem dL_told_17 : decode cL_told 17 = .ok (.astore 4, 2) := by decide +kernel
theorem dL_told_19 : decode cL_told 19 = .ok (.iconst 2, 1) := by decide +kernel
theorem dL_told_20 : decode cL_told 20 = .ok (.ireturn, 1) := by decide +kernel
theorem dL_told_21 : decode cL_told 21 = .ok (.iconst 0, 1) := by decide +kernel
theorem dL_told_22 : decode cL_told 22 = .ok (.ireturn, 1) := by decide +kernel
theorem dL_sheetByte_0 : decode cL_sheetByte 0 = .ok (.aload_n 2, 1) := by decide +kernel
theorem dL_sheetByte_1 : decode cL_sheetByte 1 = .ok (.iconst 0, 1) := by decide +kernel
theorem dL_sheetByte_2 : decode cL_sheetByte 2 = .ok (.aload_n 0, 1) := by decide +kernel
theorem dL_sheetByte_3 : decode cL_sheetByte 3 = .ok (.iload_n 1, 1) := by decide +kernel
theorem dL_sheetByte_4 : decode cL_sheetByte 4 = .ok (.invokevirtual 97, 3) := by decide +kernel
theorem dL_sheetByte_7 : decode cL_sheetByte 7 = .ok (.i2l, 1) := by decide +kernel
theorem dL_sheetByte_8 : decode cL_sheetByte 8 = .ok (.lastore, 1) := by decide +kernel
theorem dL_sheetByte_9 : decode cL_sheetByte 9 = .ok (.goto 6, 3) := by decide +kernel
theorem dL_sheetByte_12 : decode cL_sheetByte 12 = .ok (.astore_n 3, 1) := by decide +kernel
theorem dL_sheetByte_13 : decode cL_sheetByte 13 = .ok (.iconst 1, 1) := by decide +kernel
theorem dL_sheetByte_14 : decode cL_sheetByte 14 = .ok (.ireturn, 1) := by decide +kernel
theorem dL_sheetByte_15 : decode cL_sheetByte 15 = .ok (.iconst 0, 1) := by decide +kernel
theorem dL_sheetByte_16 : decode cL_sheetByte 16 = .ok (.ireturn, 1) := by decide +kernel
