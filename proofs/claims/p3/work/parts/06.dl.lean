theorem dL_make_0 : decode cL_make 0 = .ok (.aload 4, 2) := by decide +kernel
theorem dL_make_2 : decode cL_make 2 = .ok (.aload_n 0, 1) := by decide +kernel
theorem dL_make_3 : decode cL_make 3 = .ok (.iload_n 1, 1) := by decide +kernel
theorem dL_make_4 : decode cL_make 4 = .ok (.iload_n 2, 1) := by decide +kernel
theorem dL_make_5 : decode cL_make 5 = .ok (.iload_n 3, 1) := by decide +kernel
theorem dL_make_6 : decode cL_make 6 = .ok (.invokevirtual 7, 3) := by decide +kernel
theorem dL_make_9 : decode cL_make 9 = .ok (.i2l, 1) := by decide +kernel
theorem dL_make_10 : decode cL_make 10 = .ok (.putfield 13, 3) := by decide +kernel
theorem dL_make_13 : decode cL_make 13 = .ok (.goto 11, 3) := by decide +kernel
theorem dL_make_16 : decode cL_make 16 = .ok (.astore 5, 2) := by decide +kernel
theorem dL_make_18 : decode cL_make 18 = .ok (.iconst 1, 1) := by decide +kernel
theorem dL_make_19 : decode cL_make 19 = .ok (.ireturn, 1) := by decide +kernel
theorem dL_make_20 : decode cL_make 20 = .ok (.astore 5, 2) := by decide +kernel
theorem dL_make_22 : decode cL_make 22 = .ok (.iconst 2, 1) := by decide +kernel
theorem dL_make_23 : decode cL_make 23 = .ok (.ireturn, 1) := by decide +kernel
theorem dL_make_24 : decode cL_make 24 = .ok (.iconst 0, 1) := by decide +kernel
theorem dL_make_25 : decode cL_make 25 = .ok (.ireturn, 1) := by decide +kernel
theorem dL_unit_0 : decode cL_unit 0 = .ok (.aload_n 3, 1) := by decide +kernel
theorem dL_unit_1 : decode cL_unit 1 = .ok (.aload_n 0, 1) := by decide +kernel
theorem dL_unit_2 : decode cL_unit 2 = .ok (.iload_n 1, 1) := by decide +kernel
theorem dL_unit_3 : decode cL_unit 3 = .ok (.iload_n 2, 1) := by decide +kernel
theorem dL_unit_4 : decode cL_unit 4 = .ok (.invokevirtual 23, 3) := by decide +kernel
theorem dL_unit_7 : decode cL_unit 7 = .ok (.i2l, 1) := by decide +kernel
theorem dL_unit_8 : decode cL_unit 8 = .ok (.putfield 13, 3) := by decide +kernel
theorem dL_unit_11 : decode cL_unit 11 = .ok (.goto 11, 3) := by decide +kernel
theorem dL_unit_14 : decode cL_unit 14 = .ok (.astore 4, 2) := by decide +kernel
theorem dL_unit_16 : decode cL_unit 16 = .ok (.iconst 1, 1) := by decide +kernel
theorem dL_unit_17 : decode cL_unit 17 = .ok (.ireturn, 1) := by decide +kernel
theorem dL_unit_18 : decode cL_unit 18 = .ok (.astore 4, 2) := by decide +kernel
theorem dL_unit_20 : decode cL_unit 20 = .ok (.iconst 2, 1) := by decide +kernel
theorem dL_unit_21 : decode cL_unit 21 = .ok (.ireturn, 1) := by decide +kernel
theorem dL_unit_22 : decode cL_unit 22 = .ok (.iconst 0, 1) := by decide +kernel
theorem dL_unit_23 : decode cL_unit 23 = .ok (.ireturn, 1) := by decide +kernel
theorem dL_put_0 : decode cL_put 0 = .ok (.aload 5, 2) := by decide +kernel
theorem dL_put_2 : decode cL_put 2 = .ok (.aload_n 0, 1) := by decide +kernel
theorem dL_put_3 : decode cL_put 3 = .ok (.iload_n 1, 1) := by decide +kernel
theorem dL_put_4 : decode cL_put 4 = .ok (.iload_n 2, 1) := by decide +kernel
theorem dL_put_5 : decode cL_put 5 = .ok (.iload_n 3, 1) := by decide +kernel
theorem dL_put_6 : decode cL_put 6 = .ok (.iload 4, 2) := by decide +kernel
theorem dL_put_8 : decode cL_put 8 = .ok (.invokevirtual 27, 3) := by decide +kernel
theorem dL_put_11 : decode cL_put 11 = .ok (.i2l, 1) := by decide +kernel
theorem dL_put_12 : decode cL_put 12 = .ok (.putfield 13, 3) := by decide +kernel
theorem dL_put_15 : decode cL_put 15 = .ok (.goto 11, 3) := by decide +kernel
theorem dL_put_18 : decode cL_put 18 = .ok (.astore 6, 2) := by decide +kernel
theorem dL_put_20 : decode cL_put 20 = .ok (.iconst 1, 1) := by decide +kernel
theorem dL_put_21 : decode cL_put 21 = .ok (.ireturn, 1) := by decide +kernel
theorem dL_put_22 : decode cL_put 22 = .ok (.astore 6, 2) := by decide +kernel
theorem dL_put_24 : decode cL_put 24 = .ok (.iconst 2, 1) := by decide +kernel
theorem dL_put_25 : decode cL_put 25 = .ok (.ireturn, 1) := by decide +kernel
theorem dL_put_26 : decode cL_put 26 = .ok (.iconst 0, 1) := by decide +kernel
theorem dL_put_27 : decode cL_put 27 = .ok (.ireturn, 1) := by decide +kernel
theorem dL_sow_0 : decode cL_sow 0 = .ok (.aload 4, 2) := by decide +kernel
theorem dL_sow_2 : decode cL_sow 2 = .ok (.aload_n 0, 1) := by decide +kernel
theorem dL_sow_3 : decode cL_sow 3 = .ok (.iload_n 1, 1) := by decide +kernel
theorem dL_sow_4 : decode cL_sow 4 = .ok (.iload_n 2, 1) := by decide +kernel
theorem dL_sow_5 : decode cL_sow 5 = .ok (.iload_n 3, 1) := by decide +kernel
theorem dL_sow_6 : decode cL_sow 6 = .ok (.invokevirtual 31, 3) := by decide +kernel
theorem dL_sow_9 : decode cL_sow 9 = .ok (.i2l, 1) := by decide +kernel
theorem dL_sow_10 : decode cL_sow 10 = .ok (.putfield 13, 3) := by decide +kernel
theorem dL_sow_13 : decode cL_sow 13 = .ok (.goto 11, 3) := by decide +kernel
theorem dL_sow_16 : decode cL_sow 16 = .ok (.astore 5, 2) := by decide +kernel
theorem dL_sow_18 : decode cL_sow 18 = .ok (.iconst 1, 1) := by decide +kernel
theorem dL_sow_19 : decode cL_sow 19 = .ok (.ireturn, 1) := by decide +kernel
theorem dL_sow_20 : decode cL_sow 20 = .ok (.astore 5, 2) := by decide +kernel
theorem dL_sow_22 : decode cL_sow 22 = .ok (.iconst 2, 1) := by decide +kernel
theorem dL_sow_23 : decode cL_sow 23 = .ok (.ireturn, 1) := by decide +kernel
theorem dL_sow_24 : decode cL_sow 24 = .ok (.iconst 0, 1) := by decide +kernel
theorem dL_sow_25 : decode cL_sow 25 = .ok (.ireturn, 1) := by decide +kernel
theorem dL_copy_0 : decode cL_copy 0 = .ok (.aload_n 3, 1) := by decide +kernel
theorem dL_copy_1 : decode cL_copy 1 = .ok (.aload_n 0, 1) := by decide +kernel
theorem dL_copy_2 : decode cL_copy 2 = .ok (.iload_n 1, 1) := by decide +kernel
theorem dL_copy_3 : decode cL_copy 3 = .ok (.iload_n 2, 1) := by decide +kernel
theorem dL_copy_4 : decode cL_copy 4 = .ok (.invokevirtual 34, 3) := by decide +kernel
theorem dL_copy_7 : decode cL_copy 7 = .ok (.i2l, 1) := by decide +kernel
theorem dL_copy_8 : decode cL_copy 8 = .ok (.putfield 13, 3) := by decide +kernel
theorem dL_copy_11 : decode cL_copy 11 = .ok (.goto 7, 3) := by decide +kernel
theorem dL_copy_14 : decode cL_copy 14 = .ok (.astore 4, 2) := by decide +kernel
theorem dL_copy_16 : decode cL_copy 16 = .ok (.iconst 1, 1) := by decide +kernel
theorem dL_copy_17 : decode cL_copy 17 = .ok (.ireturn, 1) := by decide +kernel
theorem dL_copy_18 : decode cL_copy 18 = .ok (.iconst 0, 1) := by decide +kernel
theorem dL_copy_19 : decode cL_copy 19 = .ok (.ireturn, 1) := by decide +kernel
theorem dL_swap_0 : decode cL_swap 0 = .ok (.aload_n 3, 1) := by decide +kernel
theorem dL_swap_1 : decode cL_swap 1 = .ok (.aload_n 0, 1) := by decide +kernel
theorem dL_swap_2 : decode cL_swap 2 = .ok (.iload_n 1, 1) := by decide +kernel
theorem dL_swap_3 : decode cL_swap 3 = .ok (.iload_n 2, 1) := by decide +kernel
theorem dL_swap_4 : decode cL_swap 4 = .ok (.invokevirtual 37, 3) := by decide +kernel
theorem dL_swap_7 : decode cL_swap 7 = .ok (.i2l, 1) := by decide +kernel
theorem dL_swap_8 : decode cL_swap 8 = .ok (.putfield 13, 3) := by decide +kernel
theorem dL_swap_11 : decode cL_swap 11 = .ok (.goto 7, 3) := by decide +kernel
theorem dL_swap_14 : decode cL_swap 14 = .ok (.astore 4, 2) := by decide +kernel
theorem dL_swap_16 : decode cL_swap 16 = .ok (.iconst 1, 1) := by decide +kernel
theorem dL_swap_17 : decode cL_swap 17 = .ok (.ireturn, 1) := by decide +kernel
theorem dL_swap_18 : decode cL_swap 18 = .ok (.iconst 0, 1) := by decide +kernel
theorem dL_swap_19 : decode cL_swap 19 = .ok (.ireturn, 1) := by decide +kernel
theorem dL_flip_0 : decode cL_flip 0 = .ok (.aload_n 2, 1) := by decide +kernel
theorem dL_flip_1 : decode cL_flip 1 = .ok (.aload_n 0, 1) := by decide +kernel
theorem dL_flip_2 : decode cL_flip 2 = .ok (.iload_n 1, 1) := by decide +kernel
theorem dL_flip_3 : decode cL_flip 3 = .ok (.invokevirtual 40, 3) := by decide +kernel
theorem dL_flip_6 : decode cL_flip 6 = .ok (.i2l, 1) := by decide +kernel
theorem dL_flip_7 : decode cL_flip 7 = .ok (.putfield 13, 3) := by decide +kernel
theorem dL_flip_10 : decode cL_flip 10 = .ok (.goto 6, 3) := by decide +kernel
theorem dL_flip_13 : decode cL_flip 13 = .ok (.astore_n 3, 1) := by decide +kernel
theorem dL_flip_14 : decode cL_flip 14 = .ok (.iconst 1, 1) := by decide +kernel
theorem dL_flip_15 : decode cL_flip 15 = .ok (.ireturn, 1) := by decide +kernel
theorem dL_flip_16 : decode cL_flip 16 = .ok (.iconst 0, 1) := by decide +kernel
theorem dL_flip_17 : decode cL_flip 17 = .ok (.ireturn, 1) := by decide +kernel
theorem dL_exchange_0 : decode cL_exchange 0 = .ok (.aload 5, 2) := by decide +kernel
theorem dL_exchange_2 : decode cL_exchange 2 = .ok (.aload_n 0, 1) := by decide +kernel
theorem dL_exchange_3 : decode cL_exchange 3 = .ok (.iload_n 1, 1) := by decide +kernel
theorem dL_exchange_4 : decode cL_exchange 4 = .ok (.iload_n 2, 1) := by decide +kernel
theorem dL_exchange_5 : decode cL_exchange 5 = .ok (.iload_n 3, 1) := by decide +kernel
theorem dL_exchange_6 : decode cL_exchange 6 = .ok (.iload 4, 2) := by decide +kernel
theorem dL_exchange_8 : decode cL_exchange 8 = .ok (.invokevirtual 44, 3) := by decide +kernel
theorem dL_exchange_11 : decode cL_exchange 11 = .ok (.i2l, 1) := by decide +kernel
theorem dL_exchange_12 : decode cL_exchange 12 = .ok (.putfield 13, 3) := by decide +kernel
theorem dL_exchange_15 : decode cL_exchange 15 = .ok (.goto 7, 3) := by decide +kernel
theorem dL_exchange_18 : decode cL_exchange 18 = .ok (.astore 6, 2) := by decide +kernel
theorem dL_exchange_20 : decode cL_exchange 20 = .ok (.iconst 1, 1) := by decide +kernel
theorem dL_exchange_21 : decode cL_exchange 21 = .ok (.ireturn, 1) := by decide +kernel
theorem dL_exchange_22 : decode cL_exchange 22 = .ok (.iconst 0, 1) := by decide +kernel
theorem dL_exchange_23 : decode cL_exchange 23 = .ok (.ireturn, 1) := by decide +kernel
theorem dL_turn_0 : decode cL_turn 0 = .ok (.aload 4, 2) := by decide +kernel
theorem dL_turn_2 : decode cL_turn 2 = .ok (.aload_n 0, 1) := by decide +kernel
theorem dL_turn_3 : decode cL_turn 3 = .ok (.iload_n 1, 1) := by decide +kernel
theorem dL_turn_4 : decode cL_turn 4 = .ok (.iload_n 2, 1) := by decide +kernel
theorem dL_turn_5 : decode cL_turn 5 = .ok (.iload_n 3, 1) := by decide +kernel
theorem dL_turn_6 : decode cL_turn 6 = .ok (.invokevirtual 48, 3) := by decide +kernel
theorem dL_turn_9 : decode cL_turn 9 = .ok (.i2l, 1) := by decide +kernel
theorem dL_turn_10 : decode cL_turn 10 = .ok (.putfield 13, 3) := by decide +kernel
theorem dL_turn_13 : decode cL_turn 13 = .ok (.goto 7, 3) := by decide +kernel
theorem dL_turn_16 : decode cL_turn 16 = .ok (.astore 5, 2) := by decide +kernel
theorem dL_turn_18 : decode cL_turn 18 = .ok (.iconst 1, 1) := by decide +kernel
theorem dL_turn_19 : decode cL_turn 19 = .ok (.ireturn, 1) := by decide +kernel
theorem dL_turn_20 : decode cL_turn 20 = .ok (.iconst 0, 1) := by decide +kernel
theorem dL_turn_21 : decode cL_turn 21 = .ok (.ireturn, 1) := by decide +kernel
theorem dL_add_0 : decode cL_add 0 = .ok (.aload 6, 2) := by decide +kernel
theorem dL_add_2 : decode cL_add 2 = .ok (.aload_n 0, 1) := by decide +kernel
theorem dL_add_3 : decode cL_add 3 = .ok (.iload_n 1, 1) := by decide +kernel
theorem dL_add_4 : decode cL_add 4 = .ok (.iload_n 2, 1) := by decide +kernel
theorem dL_add_5 : decode cL_add 5 = .ok (.iload_n 3, 1) := by decide +kernel
theorem dL_add_6 : decode cL_add 6 = .ok (.iload 4, 2) := by decide +kernel
theorem dL_add_8 : decode cL_add 8 = .ok (.iload 5, 2) := by decide +kernel
theorem dL_add_10 : decode cL_add 10 = .ok (.invokevirtual 52, 3) := by decide +kernel
theorem dL_add_13 : decode cL_add 13 = .ok (.i2l, 1) := by decide +kernel
theorem dL_add_14 : decode cL_add 14 = .ok (.putfield 13, 3) := by decide +kernel
theorem dL_add_17 : decode cL_add 17 = .ok (.goto 11, 3) := by decide +kernel
theorem dL_add_20 : decode cL_add 20 = .ok (.astore 7, 2) := by decide +kernel
theorem dL_add_22 : decode cL_add 22 = .ok (.iconst 1, 1) := by decide +kernel
theorem dL_add_23 : decode cL_add 23 = .ok (.ireturn, 1) := by decide +kernel
theorem dL_add_24 : decode cL_add 24 = .ok (.astore 7, 2) := by decide +kernel
theorem dL_add_26 : decode cL_add 26 = .ok (.iconst 2, 1) := by decide +kernel
theorem dL_add_27 : decode cL_add 27 = .ok (.ireturn, 1) := by decide +kernel
theorem dL_add_28 : decode cL_add 28 = .ok (.iconst 0, 1) := by decide +kernel
theorem dL_add_29 : decode cL_add 29 = .ok (.ireturn, 1) := by decide +kernel
theorem dL_widen_0 : decode cL_widen 0 = .ok (.aload_n 3, 1) := by decide +kernel
theorem dL_widen_1 : decode cL_widen 1 = .ok (.aload_n 0, 1) := by decide +kernel
theorem dL_widen_2 : decode cL_widen 2 = .ok (.iload_n 1, 1) := by decide +kernel
theorem dL_widen_3 : decode cL_widen 3 = .ok (.iload_n 2, 1) := by decide +kernel
theorem dL_widen_4 : decode cL_widen 4 = .ok (.invokevirtual 56, 3) := by decide +kernel
theorem dL_widen_7 : decode cL_widen 7 = .ok (.i2l, 1) := by decide +kernel
theorem dL_widen_8 : decode cL_widen 8 = .ok (.putfield 13, 3) := by decide +kernel
theorem dL_widen_11 : decode cL_widen 11 = .ok (.goto 7, 3) := by decide +kernel
theorem dL_widen_14 : decode cL_widen 14 = .ok (.astore 4, 2) := by decide +kernel
theorem dL_widen_16 : decode cL_widen 16 = .ok (.iconst 1, 1) := by decide +kernel
theorem dL_widen_17 : decode cL_widen 17 = .ok (.ireturn, 1) := by decide +kernel
theorem dL_widen_18 : decode cL_widen 18 = .ok (.iconst 0, 1) := by decide +kernel
theorem dL_widen_19 : decode cL_widen 19 = .ok (.ireturn, 1) := by decide +kernel
theorem dL_drop_0 : decode cL_drop 0 = .ok (.aload 4, 2) := by decide +kernel
theorem dL_drop_2 : decode cL_drop 2 = .ok (.aload_n 0, 1) := by decide +kernel
theorem dL_drop_3 : decode cL_drop 3 = .ok (.iload_n 1, 1) := by decide +kernel
theorem dL_drop_4 : decode cL_drop 4 = .ok (.iload_n 2, 1) := by decide +kernel
theorem dL_drop_5 : decode cL_drop 5 = .ok (.iload_n 3, 1) := by decide +kernel
theorem dL_drop_6 : decode cL_drop 6 = .ok (.invokevirtual 60, 3) := by decide +kernel
theorem dL_drop_9 : decode cL_drop 9 = .ok (.i2l, 1) := by decide +kernel
theorem dL_drop_10 : decode cL_drop 10 = .ok (.putfield 13, 3) := by decide +kernel
theorem dL_drop_13 : decode cL_drop 13 = .ok (.goto 7, 3) := by decide +kernel
theorem dL_drop_16 : decode cL_drop 16 = .ok (.astore 5, 2) := by decide +kernel
theorem dL_drop_18 : decode cL_drop 18 = .ok (.iconst 1, 1) := by decide +kernel
theorem dL_drop_19 : decode cL_drop 19 = .ok (.ireturn, 1) := by decide +kernel
theorem dL_drop_20 : decode cL_drop 20 = .ok (.iconst 0, 1) := by decide +kernel
theorem dL_drop_21 : decode cL_drop 21 = .ok (.ireturn, 1) := by decide +kernel
theorem dL_sum_0 : decode cL_sum 0 = .ok (.aload 5, 2) := by decide +kernel
theorem dL_sum_2 : decode cL_sum 2 = .ok (.aload_n 0, 1) := by decide +kernel
theorem dL_sum_3 : decode cL_sum 3 = .ok (.iload_n 1, 1) := by decide +kernel
theorem dL_sum_4 : decode cL_sum 4 = .ok (.iload_n 2, 1) := by decide +kernel
theorem dL_sum_5 : decode cL_sum 5 = .ok (.iload_n 3, 1) := by decide +kernel
theorem dL_sum_6 : decode cL_sum 6 = .ok (.iload 4, 2) := by decide +kernel
theorem dL_sum_8 : decode cL_sum 8 = .ok (.invokevirtual 63, 3) := by decide +kernel
theorem dL_sum_11 : decode cL_sum 11 = .ok (.i2l, 1) := by decide +kernel
theorem dL_sum_12 : decode cL_sum 12 = .ok (.putfield 13, 3) := by decide +kernel
theorem dL_sum_15 : decode cL_sum 15 = .ok (.goto 7, 3) := by decide +kernel
theorem dL_sum_18 : decode cL_sum 18 = .ok (.astore 6, 2) := by decide +kernel
theorem dL_sum_20 : decode cL_sum 20 = .ok (.iconst 1, 1) := by decide +kernel
theorem dL_sum_21 : decode cL_sum 21 = .ok (.ireturn, 1) := by decide +kernel
theorem dL_sum_22 : decode cL_sum 22 = .ok (.iconst 0, 1) := by decide +kernel
theorem dL_sum_23 : decode cL_sum 23 = .ok (.ireturn, 1) := by decide +kernel
theorem dL_multiply_0 : decode cL_multiply 0 = .ok (.aload 4, 2) := by decide +kernel
theorem dL_multiply_2 : decode cL_multiply 2 = .ok (.aload_n 0, 1) := by decide +kernel
theorem dL_multiply_3 : decode cL_multiply 3 = .ok (.iload_n 1, 1) := by decide +kernel
theorem dL_multiply_4 : decode cL_multiply 4 = .ok (.iload_n 2, 1) := by decide +kernel
theorem dL_multiply_5 : decode cL_multiply 5 = .ok (.iload_n 3, 1) := by decide +kernel
theorem dL_multiply_6 : decode cL_multiply 6 = .ok (.invokevirtual 67, 3) := by decide +kernel
theorem dL_multiply_9 : decode cL_multiply 9 = .ok (.i2l, 1) := by decide +kernel
theorem dL_multiply_10 : decode cL_multiply 10 = .ok (.putfield 13, 3) := by decide +kernel
theorem dL_multiply_13 : decode cL_multiply 13 = .ok (.goto 7, 3) := by decide +kernel
theorem dL_multiply_16 : decode cL_multiply 16 = .ok (.astore 5, 2) := by decide +kernel
theorem dL_multiply_18 : decode cL_multiply 18 = .ok (.iconst 1, 1) := by decide +kernel
theorem dL_multiply_19 : decode cL_multiply 19 = .ok (.ireturn, 1) := by decide +kernel
theorem dL_multiply_20 : decode cL_multiply 20 = .ok (.iconst 0, 1) := by decide +kernel
theorem dL_multiply_21 : decode cL_multiply 21 = .ok (.ireturn, 1) := by decide +kernel
theorem dL_take_0 : decode cL_take 0 = .ok (.aload 4, 2) := by decide +kernel
theorem dL_take_2 : decode cL_take 2 = .ok (.aload_n 0, 1) := by decide +kernel
theorem dL_take_3 : decode cL_take 3 = .ok (.iload_n 1, 1) := by decide +kernel
theorem dL_take_4 : decode cL_take 4 = .ok (.iload_n 2, 1) := by decide +kernel
theorem dL_take_5 : decode cL_take 5 = .ok (.iload_n 3, 1) := by decide +kernel
theorem dL_take_6 : decode cL_take 6 = .ok (.invokevirtual 70, 3) := by decide +kernel
theorem dL_take_9 : decode cL_take 9 = .ok (.i2l, 1) := by decide +kernel
theorem dL_take_10 : decode cL_take 10 = .ok (.putfield 13, 3) := by decide +kernel
theorem dL_take_13 : decode cL_take 13 = .ok (.goto 11, 3) := by decide +kernel
theorem dL_take_16 : decode cL_take 16 = .ok (.astore 5, 2) := by decide +kernel
theorem dL_take_18 : decode cL_take 18 = .ok (.iconst 1, 1) := by decide +kernel
theorem dL_take_19 : decode cL_take 19 = .ok (.ireturn, 1) := by decide +kernel
theorem dL_take_20 : decode cL_take 20 = .ok (.astore 5, 2) := by decide +kernel
theorem dL_take_22 : decode cL_take 22 = .ok (.iconst 2, 1) := by decide +kernel
theorem dL_take_23 : decode cL_take 23 = .ok (.ireturn, 1) := by decide +kernel
theorem dL_take_24 : decode cL_take 24 = .ok (.iconst 0, 1) := by decide +kernel
theorem dL_take_25 : decode cL_take 25 = .ok (.ireturn, 1) := by decide +kernel
theorem dL_solve_0 : decode cL_solve 0 = .ok (.aload 5, 2) := by decide +kernel
theorem dL_solve_2 : decode cL_solve 2 = .ok (.aload_n 0, 1) := by decide +kernel
theorem dL_solve_3 : decode cL_solve 3 = .ok (.iload_n 1, 1) := by decide +kernel
theorem dL_solve_4 : decode cL_solve 4 = .ok (.iload_n 2, 1) := by decide +kernel
theorem dL_solve_5 : decode cL_solve 5 = .ok (.iload_n 3, 1) := by decide +kernel
theorem dL_solve_6 : decode cL_solve 6 = .ok (.iload 4, 2) := by decide +kernel
theorem dL_solve_8 : decode cL_solve 8 = .ok (.invokevirtual 73, 3) := by decide +kernel
theorem dL_solve_11 : decode cL_solve 11 = .ok (.i2l, 1) := by decide +kernel
theorem dL_solve_12 : decode cL_solve 12 = .ok (.putfield 13, 3) := by decide +kernel
theorem dL_solve_15 : decode cL_solve 15 = .ok (.goto 7, 3) := by decide +kernel
theorem dL_solve_18 : decode cL_solve 18 = .ok (.astore 6, 2) := by decide +kernel
theorem dL_solve_20 : decode cL_solve 20 = .ok (.iconst 1, 1) := by decide +kernel
theorem dL_solve_21 : decode cL_solve 21 = .ok (.ireturn, 1) := by decide +kernel
theorem dL_solve_22 : decode cL_solve 22 = .ok (.iconst 0, 1) := by decide +kernel
theorem dL_solve_23 : decode cL_solve 23 = .ok (.ireturn, 1) := by decide +kernel
theorem dL_shape_0 : decode cL_shape 0 = .ok (.aload_n 3, 1) := by decide +kernel
theorem dL_shape_1 : decode cL_shape 1 = .ok (.aload_n 0, 1) := by decide +kernel
theorem dL_shape_2 : decode cL_shape 2 = .ok (.iload_n 1, 1) := by decide +kernel
theorem dL_shape_3 : decode cL_shape 3 = .ok (.iload_n 2, 1) := by decide +kernel
theorem dL_shape_4 : decode cL_shape 4 = .ok (.invokevirtual 76, 3) := by decide +kernel
theorem dL_shape_7 : decode cL_shape 7 = .ok (.i2l, 1) := by decide +kernel
theorem dL_shape_8 : decode cL_shape 8 = .ok (.putfield 13, 3) := by decide +kernel
theorem dL_shape_11 : decode cL_shape 11 = .ok (.goto 7, 3) := by decide +kernel
theorem dL_shape_14 : decode cL_shape 14 = .ok (.astore 4, 2) := by decide +kernel
theorem dL_shape_16 : decode cL_shape 16 = .ok (.iconst 1, 1) := by decide +kernel
theorem dL_shape_17 : decode cL_shape 17 = .ok (.ireturn, 1) := by decide +kernel
theorem dL_shape_18 : decode cL_shape 18 = .ok (.iconst 0, 1) := by decide +kernel
theorem dL_shape_19 : decode cL_shape 19 = .ok (.ireturn, 1) := by decide +kernel
theorem dL_at_0 : decode cL_at 0 = .ok (.aload 4, 2) := by decide +kernel
theorem dL_at_2 : decode cL_at 2 = .ok (.aload_n 0, 1) := by decide +kernel
theorem dL_at_3 : decode cL_at 3 = .ok (.iload_n 1, 1) := by decide +kernel
theorem dL_at_4 : decode cL_at 4 = .ok (.iload_n 2, 1) := by decide +kernel
theorem dL_at_5 : decode cL_at 5 = .ok (.iload_n 3, 1) := by decide +kernel
theorem dL_at_6 : decode cL_at 6 = .ok (.invokevirtual 79, 3) := by decide +kernel
theorem dL_at_9 : decode cL_at 9 = .ok (.i2l, 1) := by decide +kernel
theorem dL_at_10 : decode cL_at 10 = .ok (.putfield 13, 3) := by decide +kernel
theorem dL_at_13 : decode cL_at 13 = .ok (.goto 7, 3) := by decide +kernel
theorem dL_at_16 : decode cL_at 16 = .ok (.astore 5, 2) := by decide +kernel
theorem dL_at_18 : decode cL_at 18 = .ok (.iconst 1, 1) := by decide +kernel
theorem dL_at_19 : decode cL_at 19 = .ok (.ireturn, 1) := by decide +kernel
theorem dL_at_20 : decode cL_at 20 = .ok (.iconst 0, 1) := by decide +kernel
theorem dL_at_21 : decode cL_at 21 = .ok (.ireturn, 1) := by decide +kernel
theorem dL_text_0 : decode cL_text 0 = .ok (.aload_n 2, 1) := by decide +kernel
theorem dL_text_1 : decode cL_text 1 = .ok (.aload_n 0, 1) := by decide +kernel
theorem dL_text_2 : decode cL_text 2 = .ok (.iload_n 1, 1) := by decide +kernel
theorem dL_text_3 : decode cL_text 3 = .ok (.invokevirtual 82, 3) := by decide +kernel
theorem dL_text_6 : decode cL_text 6 = .ok (.putfield 86, 3) := by decide +kernel
theorem dL_text_9 : decode cL_text 9 = .ok (.goto 6, 3) := by decide +kernel
theorem dL_text_12 : decode cL_text 12 = .ok (.astore_n 3, 1) := by decide +kernel
theorem dL_text_13 : decode cL_text 13 = .ok (.iconst 1, 1) := by decide +kernel
theorem dL_text_14 : decode cL_text 14 = .ok (.ireturn, 1) := by decide +kernel
theorem dL_text_15 : decode cL_text 15 = .ok (.iconst 0, 1) := by decide +kernel
theorem dL_text_16 : decode cL_text 16 = .ok (.ireturn, 1) := by decide +kernel
theorem dL_isSame_0 : decode cL_isSame 0 = .ok (.aload_n 3, 1) := by decide +kernel
theorem dL_isSame_1 : decode cL_isSame 1 = .ok (.aload_n 0, 1) := by decide +kernel
theorem dL_isSame_2 : decode cL_isSame 2 = .ok (.iload_n 1, 1) := by decide +kernel
theorem dL_isSame_3 : decode cL_isSame 3 = .ok (.iload_n 2, 1) := by decide +kernel
theorem dL_isSame_4 : decode cL_isSame 4 = .ok (.invokevirtual 90, 3) := by decide +kernel
theorem dL_isSame_7 : decode cL_isSame 7 = .ok (.ifCond .eq 7, 3) := by decide +kernel
theorem dL_isSame_10 : decode cL_isSame 10 = .ok (.lconst 1, 1) := by decide +kernel
theorem dL_isSame_11 : decode cL_isSame 11 = .ok (.goto 4, 3) := by decide +kernel
theorem dL_isSame_14 : decode cL_isSame 14 = .ok (.lconst 0, 1) := by decide +kernel
theorem dL_isSame_15 : decode cL_isSame 15 = .ok (.putfield 13, 3) := by decide +kernel
theorem dL_isSame_18 : decode cL_isSame 18 = .ok (.goto 7, 3) := by decide +kernel
theorem dL_isSame_21 : decode cL_isSame 21 = .ok (.astore 4, 2) := by decide +kernel
theorem dL_isSame_23 : decode cL_isSame 23 = .ok (.iconst 1, 1) := by decide +kernel
theorem dL_isSame_24 : decode cL_isSame 24 = .ok (.ireturn, 1) := by decide +kernel
theorem dL_isSame_25 : decode cL_isSame 25 = .ok (.iconst 0, 1) := by decide +kernel
theorem dL_isSame_26 : decode cL_isSame 26 = .ok (.ireturn, 1) := by decide +kernel
theorem dL_determinant_0 : decode cL_determinant 0 = .ok (.aload_n 3, 1) := by decide +kernel
theorem dL_determinant_1 : decode cL_determinant 1 = .ok (.aload_n 0, 1) := by decide +kernel
theorem dL_determinant_2 : decode cL_determinant 2 = .ok (.iload_n 1, 1) := by decide +kernel
theorem dL_determinant_3 : decode cL_determinant 3 = .ok (.iload_n 2, 1) := by decide +kernel
theorem dL_determinant_4 : decode cL_determinant 4 = .ok (.invokevirtual 94, 3) := by decide +kernel
theorem dL_determinant_7 : decode cL_determinant 7 = .ok (.i2l, 1) := by decide +kernel
theorem dL_determinant_8 : decode cL_determinant 8 = .ok (.putfield 13, 3) := by decide +kernel
theorem dL_determinant_11 : decode cL_determinant 11 = .ok (.goto 15, 3) := by decide +kernel
theorem dL_determinant_14 : decode cL_determinant 14 = .ok (.astore 4, 2) := by decide +kernel
theorem dL_determinant_16 : decode cL_determinant 16 = .ok (.iconst 1, 1) := by decide +kernel
theorem dL_determinant_17 : decode cL_determinant 17 = .ok (.ireturn, 1) := by decide +kernel
theorem dL_determinant_18 : decode cL_determinant 18 = .ok (.astore 4, 2) := by decide +kernel
theorem dL_determinant_20 : decode cL_determinant 20 = .ok (.iconst 2, 1) := by decide +kernel
theorem dL_determinant_21 : decode cL_determinant 21 = .ok (.ireturn, 1) := by decide +kernel
theorem dL_determinant_22 : decode cL_determinant 22 = .ok (.astore 4, 2) := by decide +kernel
theorem dL_determinant_24 : decode cL_determinant 24 = .ok (.iconst 3, 1) := by decide +kernel
theorem dL_determinant_25 : decode cL_determinant 25 = .ok (.ireturn, 1) := by decide +kernel
theorem dL_determinant_26 : decode cL_determinant 26 = .ok (.iconst 0, 1) := by decide +kernel
theorem dL_determinant_27 : decode cL_determinant 27 = .ok (.ireturn, 1) := by decide +kernel
theorem dL_minor_0 : decode cL_minor 0 = .ok (.aload 4, 2) := by decide +kernel
theorem dL_minor_2 : decode cL_minor 2 = .ok (.aload_n 0, 1) := by decide +kernel
theorem dL_minor_3 : decode cL_minor 3 = .ok (.iload_n 1, 1) := by decide +kernel
theorem dL_minor_4 : decode cL_minor 4 = .ok (.iload_n 2, 1) := by decide +kernel
theorem dL_minor_5 : decode cL_minor 5 = .ok (.iload_n 3, 1) := by decide +kernel
theorem dL_minor_6 : decode cL_minor 6 = .ok (.invokevirtual 99, 3) := by decide +kernel
theorem dL_minor_9 : decode cL_minor 9 = .ok (.i2l, 1) := by decide +kernel
theorem dL_minor_10 : decode cL_minor 10 = .ok (.putfield 13, 3) := by decide +kernel
theorem dL_minor_13 : decode cL_minor 13 = .ok (.goto 11, 3) := by decide +kernel
theorem dL_minor_16 : decode cL_minor 16 = .ok (.astore 5, 2) := by decide +kernel
theorem dL_minor_18 : decode cL_minor 18 = .ok (.iconst 1, 1) := by decide +kernel
theorem dL_minor_19 : decode cL_minor 19 = .ok (.ireturn, 1) := by decide +kernel
theorem dL_minor_20 : decode cL_minor 20 = .ok (.astore 5, 2) := by decide +kernel
theorem dL_minor_22 : decode cL_minor 22 = .ok (.iconst 2, 1) := by decide +kernel
theorem dL_minor_23 : decode cL_minor 23 = .ok (.ireturn, 1) := by decide +kernel
theorem dL_minor_24 : decode cL_minor 24 = .ok (.iconst 0, 1) := by decide +kernel
theorem dL_minor_25 : decode cL_minor 25 = .ok (.ireturn, 1) := by decide +kernel
theorem dL_divisor_0 : decode cL_divisor 0 = .ok (.aload_n 3, 1) := by decide +kernel
theorem dL_divisor_1 : decode cL_divisor 1 = .ok (.aload_n 0, 1) := by decide +kernel
theorem dL_divisor_2 : decode cL_divisor 2 = .ok (.iload_n 1, 1) := by decide +kernel
theorem dL_divisor_3 : decode cL_divisor 3 = .ok (.iload_n 2, 1) := by decide +kernel
theorem dL_divisor_4 : decode cL_divisor 4 = .ok (.invokevirtual 102, 3) := by decide +kernel
theorem dL_divisor_7 : decode cL_divisor 7 = .ok (.i2l, 1) := by decide +kernel
theorem dL_divisor_8 : decode cL_divisor 8 = .ok (.putfield 13, 3) := by decide +kernel
theorem dL_divisor_11 : decode cL_divisor 11 = .ok (.goto 11, 3) := by decide +kernel
theorem dL_divisor_14 : decode cL_divisor 14 = .ok (.astore 4, 2) := by decide +kernel
theorem dL_divisor_16 : decode cL_divisor 16 = .ok (.iconst 1, 1) := by decide +kernel
theorem dL_divisor_17 : decode cL_divisor 17 = .ok (.ireturn, 1) := by decide +kernel
theorem dL_divisor_18 : decode cL_divisor 18 = .ok (.astore 4, 2) := by decide +kernel
theorem dL_divisor_20 : decode cL_divisor 20 = .ok (.iconst 2, 1) := by decide +kernel
theorem dL_divisor_21 : decode cL_divisor 21 = .ok (.ireturn, 1) := by decide +kernel
theorem dL_divisor_22 : decode cL_divisor 22 = .ok (.iconst 0, 1) := by decide +kernel
theorem dL_divisor_23 : decode cL_divisor 23 = .ok (.ireturn, 1) := by decide +kernel
theorem dL_rank_0 : decode cL_rank 0 = .ok (.aload_n 3, 1) := by decide +kernel
theorem dL_rank_1 : decode cL_rank 1 = .ok (.aload_n 0, 1) := by decide +kernel
theorem dL_rank_2 : decode cL_rank 2 = .ok (.iload_n 1, 1) := by decide +kernel
theorem dL_rank_3 : decode cL_rank 3 = .ok (.iload_n 2, 1) := by decide +kernel
theorem dL_rank_4 : decode cL_rank 4 = .ok (.invokevirtual 105, 3) := by decide +kernel
theorem dL_rank_7 : decode cL_rank 7 = .ok (.i2l, 1) := by decide +kernel
theorem dL_rank_8 : decode cL_rank 8 = .ok (.putfield 13, 3) := by decide +kernel
theorem dL_rank_11 : decode cL_rank 11 = .ok (.goto 15, 3) := by decide +kernel
theorem dL_rank_14 : decode cL_rank 14 = .ok (.astore 4, 2) := by decide +kernel
theorem dL_rank_16 : decode cL_rank 16 = .ok (.iconst 1, 1) := by decide +kernel
theorem dL_rank_17 : decode cL_rank 17 = .ok (.ireturn, 1) := by decide +kernel
theorem dL_rank_18 : decode cL_rank 18 = .ok (.astore 4, 2) := by decide +kernel
theorem dL_rank_20 : decode cL_rank 20 = .ok (.iconst 2, 1) := by decide +kernel
theorem dL_rank_21 : decode cL_rank 21 = .ok (.ireturn, 1) := by decide +kernel
theorem dL_rank_22 : decode cL_rank 22 = .ok (.astore 4, 2) := by decide +kernel
theorem dL_rank_24 : decode cL_rank 24 = .ok (.iconst 3, 1) := by decide +kernel
theorem dL_rank_25 : decode cL_rank 25 = .ok (.ireturn, 1) := by decide +kernel
theorem dL_rank_26 : decode cL_rank 26 = .ok (.iconst 0, 1) := by decide +kernel
theorem dL_rank_27 : decode cL_rank 27 = .ok (.ireturn, 1) := by decide +kernel
theorem dL_told_0 : decode cL_told 0 = .ok (.aload 5, 2) := by decide +kernel
theorem dL_told_2 : decode cL_told 2 = .ok (.aload_n 0, 1) := by decide +kernel
theorem dL_told_3 : decode cL_told 3 = .ok (.iload_n 1, 1) := by decide +kernel
theorem dL_told_4 : decode cL_told 4 = .ok (.iload_n 2, 1) := by decide +kernel
theorem dL_told_5 : decode cL_told 5 = .ok (.iload_n 3, 1) := by decide +kernel
theorem dL_told_6 : decode cL_told 6 = .ok (.iload 4, 2) := by decide +kernel
theorem dL_told_8 : decode cL_told 8 = .ok (.invokevirtual 108, 3) := by decide +kernel
theorem dL_told_11 : decode cL_told 11 = .ok (.i2l, 1) := by decide +kernel
theorem dL_told_12 : decode cL_told 12 = .ok (.putfield 13, 3) := by decide +kernel
theorem dL_told_15 : decode cL_told 15 = .ok (.goto 15, 3) := by decide +kernel
theorem dL_told_18 : decode cL_told 18 = .ok (.astore 6, 2) := by decide +kernel
theorem dL_told_20 : decode cL_told 20 = .ok (.iconst 1, 1) := by decide +kernel
theorem dL_told_21 : decode cL_told 21 = .ok (.ireturn, 1) := by decide +kernel
theorem dL_told_22 : decode cL_told 22 = .ok (.astore 6, 2) := by decide +kernel
theorem dL_told_24 : decode cL_told 24 = .ok (.iconst 2, 1) := by decide +kernel
theorem dL_told_25 : decode cL_told 25 = .ok (.ireturn, 1) := by decide +kernel
theorem dL_told_26 : decode cL_told 26 = .ok (.astore 6, 2) := by decide +kernel
theorem dL_told_28 : decode cL_told 28 = .ok (.iconst 3, 1) := by decide +kernel
theorem dL_told_29 : decode cL_told 29 = .ok (.ireturn, 1) := by decide +kernel
theorem dL_told_30 : decode cL_told 30 = .ok (.iconst 0, 1) := by decide +kernel
theorem dL_told_31 : decode cL_told 31 = .ok (.ireturn, 1) := by decide +kernel
theorem dL_change_0 : decode cL_change 0 = .ok (.aload_n 3, 1) := by decide +kernel
theorem dL_change_1 : decode cL_change 1 = .ok (.aload_n 0, 1) := by decide +kernel
theorem dL_change_2 : decode cL_change 2 = .ok (.iload_n 1, 1) := by decide +kernel
theorem dL_change_3 : decode cL_change 3 = .ok (.iload_n 2, 1) := by decide +kernel
theorem dL_change_4 : decode cL_change 4 = .ok (.invokevirtual 111, 3) := by decide +kernel
theorem dL_change_7 : decode cL_change 7 = .ok (.i2l, 1) := by decide +kernel
theorem dL_change_8 : decode cL_change 8 = .ok (.putfield 13, 3) := by decide +kernel
theorem dL_change_11 : decode cL_change 11 = .ok (.goto 15, 3) := by decide +kernel
theorem dL_change_14 : decode cL_change 14 = .ok (.astore 4, 2) := by decide +kernel
theorem dL_change_16 : decode cL_change 16 = .ok (.iconst 1, 1) := by decide +kernel
theorem dL_change_17 : decode cL_change 17 = .ok (.ireturn, 1) := by decide +kernel
theorem dL_change_18 : decode cL_change 18 = .ok (.astore 4, 2) := by decide +kernel
theorem dL_change_20 : decode cL_change 20 = .ok (.iconst 2, 1) := by decide +kernel
theorem dL_change_21 : decode cL_change 21 = .ok (.ireturn, 1) := by decide +kernel
theorem dL_change_22 : decode cL_change 22 = .ok (.astore 4, 2) := by decide +kernel
theorem dL_change_24 : decode cL_change 24 = .ok (.iconst 3, 1) := by decide +kernel
theorem dL_change_25 : decode cL_change 25 = .ok (.ireturn, 1) := by decide +kernel
theorem dL_change_26 : decode cL_change 26 = .ok (.iconst 0, 1) := by decide +kernel
theorem dL_change_27 : decode cL_change 27 = .ok (.ireturn, 1) := by decide +kernel
theorem dL_isSolvable_0 : decode cL_isSolvable 0 = .ok (.aload 5, 2) := by decide +kernel
theorem dL_isSolvable_2 : decode cL_isSolvable 2 = .ok (.aload_n 0, 1) := by decide +kernel
theorem dL_isSolvable_3 : decode cL_isSolvable 3 = .ok (.iload_n 1, 1) := by decide +kernel
theorem dL_isSolvable_4 : decode cL_isSolvable 4 = .ok (.iload_n 2, 1) := by decide +kernel
theorem dL_isSolvable_5 : decode cL_isSolvable 5 = .ok (.iload_n 3, 1) := by decide +kernel
theorem dL_isSolvable_6 : decode cL_isSolvable 6 = .ok (.iload 4, 2) := by decide +kernel
theorem dL_isSolvable_8 : decode cL_isSolvable 8 = .ok (.invokevirtual 114, 3) := by decide +kernel
theorem dL_isSolvable_11 : decode cL_isSolvable 11 = .ok (.ifCond .eq 7, 3) := by decide +kernel
theorem dL_isSolvable_14 : decode cL_isSolvable 14 = .ok (.lconst 1, 1) := by decide +kernel
theorem dL_isSolvable_15 : decode cL_isSolvable 15 = .ok (.goto 4, 3) := by decide +kernel
theorem dL_isSolvable_18 : decode cL_isSolvable 18 = .ok (.lconst 0, 1) := by decide +kernel
theorem dL_isSolvable_19 : decode cL_isSolvable 19 = .ok (.putfield 13, 3) := by decide +kernel
theorem dL_isSolvable_22 : decode cL_isSolvable 22 = .ok (.goto 15, 3) := by decide +kernel
theorem dL_isSolvable_25 : decode cL_isSolvable 25 = .ok (.astore 6, 2) := by decide +kernel
theorem dL_isSolvable_27 : decode cL_isSolvable 27 = .ok (.iconst 1, 1) := by decide +kernel
theorem dL_isSolvable_28 : decode cL_isSolvable 28 = .ok (.ireturn, 1) := by decide +kernel
theorem dL_isSolvable_29 : decode cL_isSolvable 29 = .ok (.astore 6, 2) := by decide +kernel
theorem dL_isSolvable_31 : decode cL_isSolvable 31 = .ok (.iconst 2, 1) := by decide +kernel
theorem dL_isSolvable_32 : decode cL_isSolvable 32 = .ok (.ireturn, 1) := by decide +kernel
theorem dL_isSolvable_33 : decode cL_isSolvable 33 = .ok (.astore 6, 2) := by decide +kernel
theorem dL_isSolvable_35 : decode cL_isSolvable 35 = .ok (.iconst 3, 1) := by decide +kernel
theorem dL_isSolvable_36 : decode cL_isSolvable 36 = .ok (.ireturn, 1) := by decide +kernel
theorem dL_isSolvable_37 : decode cL_isSolvable 37 = .ok (.iconst 0, 1) := by decide +kernel
theorem dL_isSolvable_38 : decode cL_isSolvable 38 = .ok (.ireturn, 1) := by decide +kernel
theorem dL_restColumn_0 : decode cL_restColumn 0 = .ok (.aload 4, 2) := by decide +kernel
theorem dL_restColumn_2 : decode cL_restColumn 2 = .ok (.aload_n 0, 1) := by decide +kernel
theorem dL_restColumn_3 : decode cL_restColumn 3 = .ok (.iload_n 1, 1) := by decide +kernel
theorem dL_restColumn_4 : decode cL_restColumn 4 = .ok (.iload_n 2, 1) := by decide +kernel
theorem dL_restColumn_5 : decode cL_restColumn 5 = .ok (.iload_n 3, 1) := by decide +kernel
theorem dL_restColumn_6 : decode cL_restColumn 6 = .ok (.invokevirtual 118, 3) := by decide +kernel
theorem dL_restColumn_9 : decode cL_restColumn 9 = .ok (.i2l, 1) := by decide +kernel
theorem dL_restColumn_10 : decode cL_restColumn 10 = .ok (.putfield 13, 3) := by decide +kernel
theorem dL_restColumn_13 : decode cL_restColumn 13 = .ok (.goto 15, 3) := by decide +kernel
theorem dL_restColumn_16 : decode cL_restColumn 16 = .ok (.astore 5, 2) := by decide +kernel
theorem dL_restColumn_18 : decode cL_restColumn 18 = .ok (.iconst 1, 1) := by decide +kernel
theorem dL_restColumn_19 : decode cL_restColumn 19 = .ok (.ireturn, 1) := by decide +kernel
theorem dL_restColumn_20 : decode cL_restColumn 20 = .ok (.astore 5, 2) := by decide +kernel
theorem dL_restColumn_22 : decode cL_restColumn 22 = .ok (.iconst 2, 1) := by decide +kernel
theorem dL_restColumn_23 : decode cL_restColumn 23 = .ok (.ireturn, 1) := by decide +kernel
theorem dL_restColumn_24 : decode cL_restColumn 24 = .ok (.astore 5, 2) := by decide +kernel
theorem dL_restColumn_26 : decode cL_restColumn 26 = .ok (.iconst 3, 1) := by decide +kernel
theorem dL_restColumn_27 : decode cL_restColumn 27 = .ok (.ireturn, 1) := by decide +kernel
theorem dL_restColumn_28 : decode cL_restColumn 28 = .ok (.iconst 0, 1) := by decide +kernel
theorem dL_restColumn_29 : decode cL_restColumn 29 = .ok (.ireturn, 1) := by decide +kernel
theorem dL_rest_0 : decode cL_rest 0 = .ok (.aload_n 3, 1) := by decide +kernel
theorem dL_rest_1 : decode cL_rest 1 = .ok (.aload_n 0, 1) := by decide +kernel
theorem dL_rest_2 : decode cL_rest 2 = .ok (.iload_n 1, 1) := by decide +kernel
theorem dL_rest_3 : decode cL_rest 3 = .ok (.iload_n 2, 1) := by decide +kernel
theorem dL_rest_4 : decode cL_rest 4 = .ok (.invokevirtual 121, 3) := by decide +kernel
theorem dL_rest_7 : decode cL_rest 7 = .ok (.putfield 86, 3) := by decide +kernel
theorem dL_rest_10 : decode cL_rest 10 = .ok (.goto 15, 3) := by decide +kernel
theorem dL_rest_13 : decode cL_rest 13 = .ok (.astore 4, 2) := by decide +kernel
theorem dL_rest_15 : decode cL_rest 15 = .ok (.iconst 1, 1) := by decide +kernel
theorem dL_rest_16 : decode cL_rest 16 = .ok (.ireturn, 1) := by decide +kernel
theorem dL_rest_17 : decode cL_rest 17 = .ok (.astore 4, 2) := by decide +kernel
theorem dL_rest_19 : decode cL_rest 19 = .ok (.iconst 2, 1) := by decide +kernel
theorem dL_rest_20 : decode cL_rest 20 = .ok (.ireturn, 1) := by decide +kernel
theorem dL_rest_21 : decode cL_rest 21 = .ok (.astore 4, 2) := by decide +kernel
theorem dL_rest_23 : decode cL_rest 23 = .ok (.iconst 3, 1) := by decide +kernel
theorem dL_rest_24 : decode cL_rest 24 = .ok (.ireturn, 1) := by decide +kernel
theorem dL_rest_25 : decode cL_rest 25 = .ok (.iconst 0, 1) := by decide +kernel
theorem dL_rest_26 : decode cL_rest 26 = .ok (.ireturn, 1) := by decide +kernel
theorem dL_restOf_0 : decode cL_restOf 0 = .ok (.aload 4, 2) := by decide +kernel
theorem dL_restOf_2 : decode cL_restOf 2 = .ok (.aload_n 0, 1) := by decide +kernel
theorem dL_restOf_3 : decode cL_restOf 3 = .ok (.iload_n 1, 1) := by decide +kernel
theorem dL_restOf_4 : decode cL_restOf 4 = .ok (.iload_n 2, 1) := by decide +kernel
theorem dL_restOf_5 : decode cL_restOf 5 = .ok (.iload_n 3, 1) := by decide +kernel
theorem dL_restOf_6 : decode cL_restOf 6 = .ok (.invokevirtual 125, 3) := by decide +kernel
theorem dL_restOf_9 : decode cL_restOf 9 = .ok (.i2l, 1) := by decide +kernel
theorem dL_restOf_10 : decode cL_restOf 10 = .ok (.putfield 13, 3) := by decide +kernel
theorem dL_restOf_13 : decode cL_restOf 13 = .ok (.goto 15, 3) := by decide +kernel
theorem dL_restOf_16 : decode cL_restOf 16 = .ok (.astore 5, 2) := by decide +kernel
theorem dL_restOf_18 : decode cL_restOf 18 = .ok (.iconst 1, 1) := by decide +kernel
theorem dL_restOf_19 : decode cL_restOf 19 = .ok (.ireturn, 1) := by decide +kernel
theorem dL_restOf_20 : decode cL_restOf 20 = .ok (.astore 5, 2) := by decide +kernel
theorem dL_restOf_22 : decode cL_restOf 22 = .ok (.iconst 2, 1) := by decide +kernel
theorem dL_restOf_23 : decode cL_restOf 23 = .ok (.ireturn, 1) := by decide +kernel
theorem dL_restOf_24 : decode cL_restOf 24 = .ok (.astore 5, 2) := by decide +kernel
theorem dL_restOf_26 : decode cL_restOf 26 = .ok (.iconst 3, 1) := by decide +kernel
theorem dL_restOf_27 : decode cL_restOf 27 = .ok (.ireturn, 1) := by decide +kernel
theorem dL_restOf_28 : decode cL_restOf 28 = .ok (.iconst 0, 1) := by decide +kernel
theorem dL_restOf_29 : decode cL_restOf 29 = .ok (.ireturn, 1) := by decide +kernel
theorem dL_house_0 : decode cL_house 0 = .ok (.aload_n 2, 1) := by decide +kernel
theorem dL_house_1 : decode cL_house 1 = .ok (.aload_n 0, 1) := by decide +kernel
theorem dL_house_2 : decode cL_house 2 = .ok (.iload_n 1, 1) := by decide +kernel
theorem dL_house_3 : decode cL_house 3 = .ok (.invokevirtual 128, 3) := by decide +kernel
theorem dL_house_6 : decode cL_house 6 = .ok (.i2l, 1) := by decide +kernel
theorem dL_house_7 : decode cL_house 7 = .ok (.putfield 13, 3) := by decide +kernel
theorem dL_house_10 : decode cL_house 10 = .ok (.goto 6, 3) := by decide +kernel
theorem dL_house_13 : decode cL_house 13 = .ok (.astore_n 3, 1) := by decide +kernel
theorem dL_house_14 : decode cL_house 14 = .ok (.iconst 1, 1) := by decide +kernel
theorem dL_house_15 : decode cL_house 15 = .ok (.ireturn, 1) := by decide +kernel
theorem dL_house_16 : decode cL_house 16 = .ok (.iconst 0, 1) := by decide +kernel
theorem dL_house_17 : decode cL_house 17 = .ok (.ireturn, 1) := by decide +kernel
