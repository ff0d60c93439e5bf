theorem dX7_init_0 : decode cX7_init 0 = .ok (.aload_n 0, 1) := by decide +kernel
theorem dX7_init_1 : decode cX7_init 1 = .ok (.invokespecial 3, 3) := by decide +kernel
theorem dX7_init_4 : decode cX7_init 4 = .ok (.aload_n 0, 1) := by decide +kernel
theorem dX7_init_5 : decode cX7_init 5 = .ok (.iload_n 1, 1) := by decide +kernel
theorem dX7_init_6 : decode cX7_init 6 = .ok (.putfield 9, 3) := by decide +kernel
theorem dX7_init_9 : decode cX7_init 9 = .ok (.aload_n 0, 1) := by decide +kernel
theorem dX7_init_10 : decode cX7_init 10 = .ok (.iload_n 2, 1) := by decide +kernel
theorem dX7_init_11 : decode cX7_init 11 = .ok (.putfield 15, 3) := by decide +kernel
theorem dX7_init_14 : decode cX7_init 14 = .ok (.aload_n 0, 1) := by decide +kernel
theorem dX7_init_15 : decode cX7_init 15 = .ok (.iload_n 1, 1) := by decide +kernel
theorem dX7_init_16 : decode cX7_init 16 = .ok (.iconst 5, 1) := by decide +kernel
theorem dX7_init_17 : decode cX7_init 17 = .ok (.imul, 1) := by decide +kernel
theorem dX7_init_18 : decode cX7_init 18 = .ok (.newarray .long, 2) := by decide +kernel
theorem dX7_init_20 : decode cX7_init 20 = .ok (.putfield 18, 3) := by decide +kernel
theorem dX7_init_23 : decode cX7_init 23 = .ok (.return_, 1) := by decide +kernel
theorem dX7_at_0 : decode cX7_at 0 = .ok (.aload_n 0, 1) := by decide +kernel
theorem dX7_at_1 : decode cX7_at 1 = .ok (.getfield 18, 3) := by decide +kernel
theorem dX7_at_4 : decode cX7_at 4 = .ok (.iload_n 1, 1) := by decide +kernel
theorem dX7_at_5 : decode cX7_at 5 = .ok (.iconst 5, 1) := by decide +kernel
theorem dX7_at_6 : decode cX7_at 6 = .ok (.imul, 1) := by decide +kernel
theorem dX7_at_7 : decode cX7_at 7 = .ok (.iload_n 2, 1) := by decide +kernel
theorem dX7_at_8 : decode cX7_at 8 = .ok (.iadd, 1) := by decide +kernel
theorem dX7_at_9 : decode cX7_at 9 = .ok (.laload, 1) := by decide +kernel
theorem dX7_at_10 : decode cX7_at 10 = .ok (.lreturn, 1) := by decide +kernel
theorem dX7_put_0 : decode cX7_put 0 = .ok (.aload_n 0, 1) := by decide +kernel
theorem dX7_put_1 : decode cX7_put 1 = .ok (.getfield 18, 3) := by decide +kernel
theorem dX7_put_4 : decode cX7_put 4 = .ok (.iload_n 1, 1) := by decide +kernel
theorem dX7_put_5 : decode cX7_put 5 = .ok (.iconst 5, 1) := by decide +kernel
theorem dX7_put_6 : decode cX7_put 6 = .ok (.imul, 1) := by decide +kernel
theorem dX7_put_7 : decode cX7_put 7 = .ok (.iload_n 2, 1) := by decide +kernel
theorem dX7_put_8 : decode cX7_put 8 = .ok (.iadd, 1) := by decide +kernel
theorem dX7_put_9 : decode cX7_put 9 = .ok (.lload_n 3, 1) := by decide +kernel
theorem dX7_put_10 : decode cX7_put 10 = .ok (.lastore, 1) := by decide +kernel
theorem dX7_put_11 : decode cX7_put 11 = .ok (.return_, 1) := by decide +kernel
theorem dX7_copy_0 : decode cX7_copy 0 = .ok (.new 10, 3) := by decide +kernel
theorem dX7_copy_3 : decode cX7_copy 3 = .ok (.dup, 1) := by decide +kernel
theorem dX7_copy_4 : decode cX7_copy 4 = .ok (.aload_n 0, 1) := by decide +kernel
theorem dX7_copy_5 : decode cX7_copy 5 = .ok (.getfield 9, 3) := by decide +kernel
theorem dX7_copy_8 : decode cX7_copy 8 = .ok (.aload_n 0, 1) := by decide +kernel
theorem dX7_copy_9 : decode cX7_copy 9 = .ok (.getfield 15, 3) := by decide +kernel
theorem dX7_copy_12 : decode cX7_copy 12 = .ok (.invokespecial 22, 3) := by decide +kernel
theorem dX7_copy_15 : decode cX7_copy 15 = .ok (.astore_n 1, 1) := by decide +kernel
theorem dX7_copy_16 : decode cX7_copy 16 = .ok (.iconst 0, 1) := by decide +kernel
theorem dX7_copy_17 : decode cX7_copy 17 = .ok (.istore_n 2, 1) := by decide +kernel
theorem dX7_copy_18 : decode cX7_copy 18 = .ok (.iload_n 2, 1) := by decide +kernel
theorem dX7_copy_19 : decode cX7_copy 19 = .ok (.aload_n 0, 1) := by decide +kernel
theorem dX7_copy_20 : decode cX7_copy 20 = .ok (.getfield 18, 3) := by decide +kernel
theorem dX7_copy_23 : decode cX7_copy 23 = .ok (.arraylength, 1) := by decide +kernel
theorem dX7_copy_24 : decode cX7_copy 24 = .ok (.if_icmp .ge 21, 3) := by decide +kernel
theorem dX7_copy_27 : decode cX7_copy 27 = .ok (.aload_n 1, 1) := by decide +kernel
theorem dX7_copy_28 : decode cX7_copy 28 = .ok (.getfield 18, 3) := by decide +kernel
theorem dX7_copy_31 : decode cX7_copy 31 = .ok (.iload_n 2, 1) := by decide +kernel
theorem dX7_copy_32 : decode cX7_copy 32 = .ok (.aload_n 0, 1) := by decide +kernel
theorem dX7_copy_33 : decode cX7_copy 33 = .ok (.getfield 18, 3) := by decide +kernel
theorem dX7_copy_36 : decode cX7_copy 36 = .ok (.iload_n 2, 1) := by decide +kernel
theorem dX7_copy_37 : decode cX7_copy 37 = .ok (.laload, 1) := by decide +kernel
theorem dX7_copy_38 : decode cX7_copy 38 = .ok (.lastore, 1) := by decide +kernel
theorem dX7_copy_39 : decode cX7_copy 39 = .ok (.iinc 2 1, 3) := by decide +kernel
theorem dX7_copy_42 : decode cX7_copy 42 = .ok (.goto (-24), 3) := by decide +kernel
theorem dX7_copy_45 : decode cX7_copy 45 = .ok (.aload_n 1, 1) := by decide +kernel
theorem dX7_copy_46 : decode cX7_copy 46 = .ok (.areturn, 1) := by decide +kernel
theorem dX7_unit_0 : decode cX7_unit 0 = .ok (.new 10, 3) := by decide +kernel
theorem dX7_unit_3 : decode cX7_unit 3 = .ok (.dup, 1) := by decide +kernel
theorem dX7_unit_4 : decode cX7_unit 4 = .ok (.iload_n 0, 1) := by decide +kernel
theorem dX7_unit_5 : decode cX7_unit 5 = .ok (.iload_n 0, 1) := by decide +kernel
theorem dX7_unit_6 : decode cX7_unit 6 = .ok (.invokespecial 22, 3) := by decide +kernel
theorem dX7_unit_9 : decode cX7_unit 9 = .ok (.astore_n 1, 1) := by decide +kernel
theorem dX7_unit_10 : decode cX7_unit 10 = .ok (.iconst 0, 1) := by decide +kernel
theorem dX7_unit_11 : decode cX7_unit 11 = .ok (.istore_n 2, 1) := by decide +kernel
theorem dX7_unit_12 : decode cX7_unit 12 = .ok (.iload_n 2, 1) := by decide +kernel
theorem dX7_unit_13 : decode cX7_unit 13 = .ok (.iload_n 0, 1) := by decide +kernel
theorem dX7_unit_14 : decode cX7_unit 14 = .ok (.if_icmp .ge 16, 3) := by decide +kernel
theorem dX7_unit_17 : decode cX7_unit 17 = .ok (.aload_n 1, 1) := by decide +kernel
theorem dX7_unit_18 : decode cX7_unit 18 = .ok (.iload_n 2, 1) := by decide +kernel
theorem dX7_unit_19 : decode cX7_unit 19 = .ok (.iload_n 2, 1) := by decide +kernel
theorem dX7_unit_20 : decode cX7_unit 20 = .ok (.lconst 1, 1) := by decide +kernel
theorem dX7_unit_21 : decode cX7_unit 21 = .ok (.invokevirtual 25, 3) := by decide +kernel
theorem dX7_unit_24 : decode cX7_unit 24 = .ok (.iinc 2 1, 3) := by decide +kernel
theorem dX7_unit_27 : decode cX7_unit 27 = .ok (.goto (-15), 3) := by decide +kernel
theorem dX7_unit_30 : decode cX7_unit 30 = .ok (.aload_n 1, 1) := by decide +kernel
theorem dX7_unit_31 : decode cX7_unit 31 = .ok (.areturn, 1) := by decide +kernel
theorem dX7_exchangeRows_0 : decode cX7_exchangeRows 0 = .ok (.iconst 0, 1) := by decide +kernel
theorem dX7_exchangeRows_1 : decode cX7_exchangeRows 1 = .ok (.istore_n 3, 1) := by decide +kernel
theorem dX7_exchangeRows_2 : decode cX7_exchangeRows 2 = .ok (.iload_n 3, 1) := by decide +kernel
theorem dX7_exchangeRows_3 : decode cX7_exchangeRows 3 = .ok (.aload_n 0, 1) := by decide +kernel
theorem dX7_exchangeRows_4 : decode cX7_exchangeRows 4 = .ok (.getfield 15, 3) := by decide +kernel
theorem dX7_exchangeRows_7 : decode cX7_exchangeRows 7 = .ok (.if_icmp .ge 37, 3) := by decide +kernel
theorem dX7_exchangeRows_10 : decode cX7_exchangeRows 10 = .ok (.aload_n 0, 1) := by decide +kernel
theorem dX7_exchangeRows_11 : decode cX7_exchangeRows 11 = .ok (.iload_n 1, 1) := by decide +kernel
theorem dX7_exchangeRows_12 : decode cX7_exchangeRows 12 = .ok (.iload_n 3, 1) := by decide +kernel
theorem dX7_exchangeRows_13 : decode cX7_exchangeRows 13 = .ok (.invokevirtual 29, 3) := by decide +kernel
theorem dX7_exchangeRows_16 : decode cX7_exchangeRows 16 = .ok (.lstore 4, 2) := by decide +kernel
theorem dX7_exchangeRows_18 : decode cX7_exchangeRows 18 = .ok (.aload_n 0, 1) := by decide +kernel
theorem dX7_exchangeRows_19 : decode cX7_exchangeRows 19 = .ok (.iload_n 1, 1) := by decide +kernel
theorem dX7_exchangeRows_20 : decode cX7_exchangeRows 20 = .ok (.iload_n 3, 1) := by decide +kernel
theorem dX7_exchangeRows_21 : decode cX7_exchangeRows 21 = .ok (.aload_n 0, 1) := by decide +kernel
theorem dX7_exchangeRows_22 : decode cX7_exchangeRows 22 = .ok (.iload_n 2, 1) := by decide +kernel
theorem dX7_exchangeRows_23 : decode cX7_exchangeRows 23 = .ok (.iload_n 3, 1) := by decide +kernel
theorem dX7_exchangeRows_24 : decode cX7_exchangeRows 24 = .ok (.invokevirtual 29, 3) := by decide +kernel
theorem dX7_exchangeRows_27 : decode cX7_exchangeRows 27 = .ok (.invokevirtual 25, 3) := by decide +kernel
theorem dX7_exchangeRows_30 : decode cX7_exchangeRows 30 = .ok (.aload_n 0, 1) := by decide +kernel
theorem dX7_exchangeRows_31 : decode cX7_exchangeRows 31 = .ok (.iload_n 2, 1) := by decide +kernel
theorem dX7_exchangeRows_32 : decode cX7_exchangeRows 32 = .ok (.iload_n 3, 1) := by decide +kernel
theorem dX7_exchangeRows_33 : decode cX7_exchangeRows 33 = .ok (.lload 4, 2) := by decide +kernel
theorem dX7_exchangeRows_35 : decode cX7_exchangeRows 35 = .ok (.invokevirtual 25, 3) := by decide +kernel
theorem dX7_exchangeRows_38 : decode cX7_exchangeRows 38 = .ok (.iinc 3 1, 3) := by decide +kernel
theorem dX7_exchangeRows_41 : decode cX7_exchangeRows 41 = .ok (.goto (-39), 3) := by decide +kernel
theorem dX7_exchangeRows_44 : decode cX7_exchangeRows 44 = .ok (.return_, 1) := by decide +kernel
theorem dX7_exchangeColumns_0 : decode cX7_exchangeColumns 0 = .ok (.iconst 0, 1) := by decide +kernel
theorem dX7_exchangeColumns_1 : decode cX7_exchangeColumns 1 = .ok (.istore_n 3, 1) := by decide +kernel
theorem dX7_exchangeColumns_2 : decode cX7_exchangeColumns 2 = .ok (.iload_n 3, 1) := by decide +kernel
theorem dX7_exchangeColumns_3 : decode cX7_exchangeColumns 3 = .ok (.aload_n 0, 1) := by decide +kernel
theorem dX7_exchangeColumns_4 : decode cX7_exchangeColumns 4 = .ok (.getfield 9, 3) := by decide +kernel
theorem dX7_exchangeColumns_7 : decode cX7_exchangeColumns 7 = .ok (.if_icmp .ge 37, 3) := by decide +kernel
theorem dX7_exchangeColumns_10 : decode cX7_exchangeColumns 10 = .ok (.aload_n 0, 1) := by decide +kernel
theorem dX7_exchangeColumns_11 : decode cX7_exchangeColumns 11 = .ok (.iload_n 3, 1) := by decide +kernel
theorem dX7_exchangeColumns_12 : decode cX7_exchangeColumns 12 = .ok (.iload_n 1, 1) := by decide +kernel
theorem dX7_exchangeColumns_13 : decode cX7_exchangeColumns 13 = .ok (.invokevirtual 29, 3) := by decide +kernel
theorem dX7_exchangeColumns_16 : decode cX7_exchangeColumns 16 = .ok (.lstore 4, 2) := by decide +kernel
theorem dX7_exchangeColumns_18 : decode cX7_exchangeColumns 18 = .ok (.aload_n 0, 1) := by decide +kernel
theorem dX7_exchangeColumns_19 : decode cX7_exchangeColumns 19 = .ok (.iload_n 3, 1) := by decide +kernel
theorem dX7_exchangeColumns_20 : decode cX7_exchangeColumns 20 = .ok (.iload_n 1, 1) := by decide +kernel
theorem dX7_exchangeColumns_21 : decode cX7_exchangeColumns 21 = .ok (.aload_n 0, 1) := by decide +kernel
theorem dX7_exchangeColumns_22 : decode cX7_exchangeColumns 22 = .ok (.iload_n 3, 1) := by decide +kernel
theorem dX7_exchangeColumns_23 : decode cX7_exchangeColumns 23 = .ok (.iload_n 2, 1) := by decide +kernel
theorem dX7_exchangeColumns_24 : decode cX7_exchangeColumns 24 = .ok (.invokevirtual 29, 3) := by decide +kernel
theorem dX7_exchangeColumns_27 : decode cX7_exchangeColumns 27 = .ok (.invokevirtual 25, 3) := by decide +kernel
theorem dX7_exchangeColumns_30 : decode cX7_exchangeColumns 30 = .ok (.aload_n 0, 1) := by decide +kernel
theorem dX7_exchangeColumns_31 : decode cX7_exchangeColumns 31 = .ok (.iload_n 3, 1) := by decide +kernel
theorem dX7_exchangeColumns_32 : decode cX7_exchangeColumns 32 = .ok (.iload_n 2, 1) := by decide +kernel
theorem dX7_exchangeColumns_33 : decode cX7_exchangeColumns 33 = .ok (.lload 4, 2) := by decide +kernel
theorem dX7_exchangeColumns_35 : decode cX7_exchangeColumns 35 = .ok (.invokevirtual 25, 3) := by decide +kernel
theorem dX7_exchangeColumns_38 : decode cX7_exchangeColumns 38 = .ok (.iinc 3 1, 3) := by decide +kernel
theorem dX7_exchangeColumns_41 : decode cX7_exchangeColumns 41 = .ok (.goto (-39), 3) := by decide +kernel
theorem dX7_exchangeColumns_44 : decode cX7_exchangeColumns 44 = .ok (.return_, 1) := by decide +kernel
theorem dX7_turnRow_0 : decode cX7_turnRow 0 = .ok (.iconst 0, 1) := by decide +kernel
theorem dX7_turnRow_1 : decode cX7_turnRow 1 = .ok (.istore_n 2, 1) := by decide +kernel
theorem dX7_turnRow_2 : decode cX7_turnRow 2 = .ok (.iload_n 2, 1) := by decide +kernel
theorem dX7_turnRow_3 : decode cX7_turnRow 3 = .ok (.aload_n 0, 1) := by decide +kernel
theorem dX7_turnRow_4 : decode cX7_turnRow 4 = .ok (.getfield 15, 3) := by decide +kernel
theorem dX7_turnRow_7 : decode cX7_turnRow 7 = .ok (.if_icmp .ge 22, 3) := by decide +kernel
theorem dX7_turnRow_10 : decode cX7_turnRow 10 = .ok (.aload_n 0, 1) := by decide +kernel
theorem dX7_turnRow_11 : decode cX7_turnRow 11 = .ok (.iload_n 1, 1) := by decide +kernel
theorem dX7_turnRow_12 : decode cX7_turnRow 12 = .ok (.iload_n 2, 1) := by decide +kernel
theorem dX7_turnRow_13 : decode cX7_turnRow 13 = .ok (.aload_n 0, 1) := by decide +kernel
theorem dX7_turnRow_14 : decode cX7_turnRow 14 = .ok (.iload_n 1, 1) := by decide +kernel
theorem dX7_turnRow_15 : decode cX7_turnRow 15 = .ok (.iload_n 2, 1) := by decide +kernel
theorem dX7_turnRow_16 : decode cX7_turnRow 16 = .ok (.invokevirtual 29, 3) := by decide +kernel
theorem dX7_turnRow_19 : decode cX7_turnRow 19 = .ok (.lneg, 1) := by decide +kernel
theorem dX7_turnRow_20 : decode cX7_turnRow 20 = .ok (.invokevirtual 25, 3) := by decide +kernel
theorem dX7_turnRow_23 : decode cX7_turnRow 23 = .ok (.iinc 2 1, 3) := by decide +kernel
theorem dX7_turnRow_26 : decode cX7_turnRow 26 = .ok (.goto (-24), 3) := by decide +kernel
theorem dX7_turnRow_29 : decode cX7_turnRow 29 = .ok (.return_, 1) := by decide +kernel
theorem dX7_addRow_0 : decode cX7_addRow 0 = .ok (.iconst 0, 1) := by decide +kernel
theorem dX7_addRow_1 : decode cX7_addRow 1 = .ok (.istore 5, 2) := by decide +kernel
theorem dX7_addRow_3 : decode cX7_addRow 3 = .ok (.iload 5, 2) := by decide +kernel
theorem dX7_addRow_5 : decode cX7_addRow 5 = .ok (.aload_n 0, 1) := by decide +kernel
theorem dX7_addRow_6 : decode cX7_addRow 6 = .ok (.getfield 15, 3) := by decide +kernel
theorem dX7_addRow_9 : decode cX7_addRow 9 = .ok (.if_icmp .ge 33, 3) := by decide +kernel
theorem dX7_addRow_12 : decode cX7_addRow 12 = .ok (.aload_n 0, 1) := by decide +kernel
theorem dX7_addRow_13 : decode cX7_addRow 13 = .ok (.iload_n 1, 1) := by decide +kernel
theorem dX7_addRow_14 : decode cX7_addRow 14 = .ok (.iload 5, 2) := by decide +kernel
theorem dX7_addRow_16 : decode cX7_addRow 16 = .ok (.aload_n 0, 1) := by decide +kernel
theorem dX7_addRow_17 : decode cX7_addRow 17 = .ok (.iload_n 1, 1) := by decide +kernel
theorem dX7_addRow_18 : decode cX7_addRow 18 = .ok (.iload 5, 2) := by decide +kernel
theorem dX7_addRow_20 : decode cX7_addRow 20 = .ok (.invokevirtual 29, 3) := by decide +kernel
theorem dX7_addRow_23 : decode cX7_addRow 23 = .ok (.lload_n 3, 1) := by decide +kernel
theorem dX7_addRow_24 : decode cX7_addRow 24 = .ok (.aload_n 0, 1) := by decide +kernel
theorem dX7_addRow_25 : decode cX7_addRow 25 = .ok (.iload_n 2, 1) := by decide +kernel
theorem dX7_addRow_26 : decode cX7_addRow 26 = .ok (.iload 5, 2) := by decide +kernel
theorem dX7_addRow_28 : decode cX7_addRow 28 = .ok (.invokevirtual 29, 3) := by decide +kernel
theorem dX7_addRow_31 : decode cX7_addRow 31 = .ok (.lmul, 1) := by decide +kernel
theorem dX7_addRow_32 : decode cX7_addRow 32 = .ok (.ladd, 1) := by decide +kernel
theorem dX7_addRow_33 : decode cX7_addRow 33 = .ok (.invokevirtual 25, 3) := by decide +kernel
theorem dX7_addRow_36 : decode cX7_addRow 36 = .ok (.iinc 5 1, 3) := by decide +kernel
theorem dX7_addRow_39 : decode cX7_addRow 39 = .ok (.goto (-36), 3) := by decide +kernel
theorem dX7_addRow_42 : decode cX7_addRow 42 = .ok (.return_, 1) := by decide +kernel
theorem dX7_addColumn_0 : decode cX7_addColumn 0 = .ok (.iconst 0, 1) := by decide +kernel
theorem dX7_addColumn_1 : decode cX7_addColumn 1 = .ok (.istore 5, 2) := by decide +kernel
theorem dX7_addColumn_3 : decode cX7_addColumn 3 = .ok (.iload 5, 2) := by decide +kernel
theorem dX7_addColumn_5 : decode cX7_addColumn 5 = .ok (.aload_n 0, 1) := by decide +kernel
theorem dX7_addColumn_6 : decode cX7_addColumn 6 = .ok (.getfield 9, 3) := by decide +kernel
theorem dX7_addColumn_9 : decode cX7_addColumn 9 = .ok (.if_icmp .ge 33, 3) := by decide +kernel
theorem dX7_addColumn_12 : decode cX7_addColumn 12 = .ok (.aload_n 0, 1) := by decide +kernel
theorem dX7_addColumn_13 : decode cX7_addColumn 13 = .ok (.iload 5, 2) := by decide +kernel
theorem dX7_addColumn_15 : decode cX7_addColumn 15 = .ok (.iload_n 1, 1) := by decide +kernel
theorem dX7_addColumn_16 : decode cX7_addColumn 16 = .ok (.aload_n 0, 1) := by decide +kernel
theorem dX7_addColumn_17 : decode cX7_addColumn 17 = .ok (.iload 5, 2) := by decide +kernel
theorem dX7_addColumn_19 : decode cX7_addColumn 19 = .ok (.iload_n 1, 1) := by decide +kernel
theorem dX7_addColumn_20 : decode cX7_addColumn 20 = .ok (.invokevirtual 29, 3) := by decide +kernel
theorem dX7_addColumn_23 : decode cX7_addColumn 23 = .ok (.lload_n 3, 1) := by decide +kernel
theorem dX7_addColumn_24 : decode cX7_addColumn 24 = .ok (.aload_n 0, 1) := by decide +kernel
theorem dX7_addColumn_25 : decode cX7_addColumn 25 = .ok (.iload 5, 2) := by decide +kernel
theorem dX7_addColumn_27 : decode cX7_addColumn 27 = .ok (.iload_n 2, 1) := by decide +kernel
theorem dX7_addColumn_28 : decode cX7_addColumn 28 = .ok (.invokevirtual 29, 3) := by decide +kernel
theorem dX7_addColumn_31 : decode cX7_addColumn 31 = .ok (.lmul, 1) := by decide +kernel
theorem dX7_addColumn_32 : decode cX7_addColumn 32 = .ok (.ladd, 1) := by decide +kernel
theorem dX7_addColumn_33 : decode cX7_addColumn 33 = .ok (.invokevirtual 25, 3) := by decide +kernel
theorem dX7_addColumn_36 : decode cX7_addColumn 36 = .ok (.iinc 5 1, 3) := by decide +kernel
theorem dX7_addColumn_39 : decode cX7_addColumn 39 = .ok (.goto (-36), 3) := by decide +kernel
theorem dX7_addColumn_42 : decode cX7_addColumn 42 = .ok (.return_, 1) := by decide +kernel
theorem dX7_isGreat_0 : decode cX7_isGreat 0 = .ok (.aload_n 0, 1) := by decide +kernel
theorem dX7_isGreat_1 : decode cX7_isGreat 1 = .ok (.getfield 18, 3) := by decide +kernel
theorem dX7_isGreat_4 : decode cX7_isGreat 4 = .ok (.astore_n 1, 1) := by decide +kernel
theorem dX7_isGreat_5 : decode cX7_isGreat 5 = .ok (.aload_n 1, 1) := by decide +kernel
theorem dX7_isGreat_6 : decode cX7_isGreat 6 = .ok (.arraylength, 1) := by decide +kernel
theorem dX7_isGreat_7 : decode cX7_isGreat 7 = .ok (.istore_n 2, 1) := by decide +kernel
theorem dX7_isGreat_8 : decode cX7_isGreat 8 = .ok (.iconst 0, 1) := by decide +kernel
theorem dX7_isGreat_9 : decode cX7_isGreat 9 = .ok (.istore_n 3, 1) := by decide +kernel
theorem dX7_isGreat_10 : decode cX7_isGreat 10 = .ok (.iload_n 3, 1) := by decide +kernel
theorem dX7_isGreat_11 : decode cX7_isGreat 11 = .ok (.iload_n 2, 1) := by decide +kernel
theorem dX7_isGreat_12 : decode cX7_isGreat 12 = .ok (.if_icmp .ge 34, 3) := by decide +kernel
theorem dX7_isGreat_15 : decode cX7_isGreat 15 = .ok (.aload_n 1, 1) := by decide +kernel
theorem dX7_isGreat_16 : decode cX7_isGreat 16 = .ok (.iload_n 3, 1) := by decide +kernel
theorem dX7_isGreat_17 : decode cX7_isGreat 17 = .ok (.laload, 1) := by decide +kernel
theorem dX7_isGreat_18 : decode cX7_isGreat 18 = .ok (.lstore 4, 2) := by decide +kernel
theorem dX7_isGreat_20 : decode cX7_isGreat 20 = .ok (.lload 4, 2) := by decide +kernel
theorem dX7_isGreat_22 : decode cX7_isGreat 22 = .ok (.ldc2_w 33, 3) := by decide +kernel
theorem dX7_isGreat_25 : decode cX7_isGreat 25 = .ok (.lcmp, 1) := by decide +kernel
theorem dX7_isGreat_26 : decode cX7_isGreat 26 = .ok (.ifCond .gt 12, 3) := by decide +kernel
theorem dX7_isGreat_29 : decode cX7_isGreat 29 = .ok (.lload 4, 2) := by decide +kernel
theorem dX7_isGreat_31 : decode cX7_isGreat 31 = .ok (.ldc2_w 35, 3) := by decide +kernel
theorem dX7_isGreat_34 : decode cX7_isGreat 34 = .ok (.lcmp, 1) := by decide +kernel
theorem dX7_isGreat_35 : decode cX7_isGreat 35 = .ok (.ifCond .ge 5, 3) := by decide +kernel
theorem dX7_isGreat_38 : decode cX7_isGreat 38 = .ok (.iconst 1, 1) := by decide +kernel
theorem dX7_isGreat_39 : decode cX7_isGreat 39 = .ok (.ireturn, 1) := by decide +kernel
theorem dX7_isGreat_40 : decode cX7_isGreat 40 = .ok (.iinc 3 1, 3) := by decide +kernel
theorem dX7_isGreat_43 : decode cX7_isGreat 43 = .ok (.goto (-33), 3) := by decide +kernel
theorem dX7_isGreat_46 : decode cX7_isGreat 46 = .ok (.iconst 0, 1) := by decide +kernel
theorem dX7_isGreat_47 : decode cX7_isGreat 47 = .ok (.ireturn, 1) := by decide +kernel
theorem dX7_isLet_0 : decode cX7_isLet 0 = .ok (.aload_n 0, 1) := by decide +kernel
theorem dX7_isLet_1 : decode cX7_isLet 1 = .ok (.getfield 18, 3) := by decide +kernel
theorem dX7_isLet_4 : decode cX7_isLet 4 = .ok (.astore_n 1, 1) := by decide +kernel
theorem dX7_isLet_5 : decode cX7_isLet 5 = .ok (.aload_n 1, 1) := by decide +kernel
theorem dX7_isLet_6 : decode cX7_isLet 6 = .ok (.arraylength, 1) := by decide +kernel
theorem dX7_isLet_7 : decode cX7_isLet 7 = .ok (.istore_n 2, 1) := by decide +kernel
theorem dX7_isLet_8 : decode cX7_isLet 8 = .ok (.iconst 0, 1) := by decide +kernel
theorem dX7_isLet_9 : decode cX7_isLet 9 = .ok (.istore_n 3, 1) := by decide +kernel
theorem dX7_isLet_10 : decode cX7_isLet 10 = .ok (.iload_n 3, 1) := by decide +kernel
theorem dX7_isLet_11 : decode cX7_isLet 11 = .ok (.iload_n 2, 1) := by decide +kernel
theorem dX7_isLet_12 : decode cX7_isLet 12 = .ok (.if_icmp .ge 34, 3) := by decide +kernel
theorem dX7_isLet_15 : decode cX7_isLet 15 = .ok (.aload_n 1, 1) := by decide +kernel
theorem dX7_isLet_16 : decode cX7_isLet 16 = .ok (.iload_n 3, 1) := by decide +kernel
theorem dX7_isLet_17 : decode cX7_isLet 17 = .ok (.laload, 1) := by decide +kernel
theorem dX7_isLet_18 : decode cX7_isLet 18 = .ok (.lstore 4, 2) := by decide +kernel
theorem dX7_isLet_20 : decode cX7_isLet 20 = .ok (.lload 4, 2) := by decide +kernel
theorem dX7_isLet_22 : decode cX7_isLet 22 = .ok (.ldc2_w 37, 3) := by decide +kernel
theorem dX7_isLet_25 : decode cX7_isLet 25 = .ok (.lcmp, 1) := by decide +kernel
theorem dX7_isLet_26 : decode cX7_isLet 26 = .ok (.ifCond .gt 12, 3) := by decide +kernel
theorem dX7_isLet_29 : decode cX7_isLet 29 = .ok (.lload 4, 2) := by decide +kernel
theorem dX7_isLet_31 : decode cX7_isLet 31 = .ok (.ldc2_w 39, 3) := by decide +kernel
theorem dX7_isLet_34 : decode cX7_isLet 34 = .ok (.lcmp, 1) := by decide +kernel
theorem dX7_isLet_35 : decode cX7_isLet 35 = .ok (.ifCond .ge 5, 3) := by decide +kernel
theorem dX7_isLet_38 : decode cX7_isLet 38 = .ok (.iconst 0, 1) := by decide +kernel
theorem dX7_isLet_39 : decode cX7_isLet 39 = .ok (.ireturn, 1) := by decide +kernel
theorem dX7_isLet_40 : decode cX7_isLet 40 = .ok (.iinc 3 1, 3) := by decide +kernel
theorem dX7_isLet_43 : decode cX7_isLet 43 = .ok (.goto (-33), 3) := by decide +kernel
theorem dX7_isLet_46 : decode cX7_isLet 46 = .ok (.iconst 1, 1) := by decide +kernel
theorem dX7_isLet_47 : decode cX7_isLet 47 = .ok (.ireturn, 1) := by decide +kernel
theorem dX7_others_0 : decode cX7_others 0 = .ok (.iconst 0, 1) := by decide +kernel
theorem dX7_others_1 : decode cX7_others 1 = .ok (.istore_n 1, 1) := by decide +kernel
theorem dX7_others_2 : decode cX7_others 2 = .ok (.aload_n 0, 1) := by decide +kernel
theorem dX7_others_3 : decode cX7_others 3 = .ok (.getfield 18, 3) := by decide +kernel
theorem dX7_others_6 : decode cX7_others 6 = .ok (.astore_n 2, 1) := by decide +kernel
theorem dX7_others_7 : decode cX7_others 7 = .ok (.aload_n 2, 1) := by decide +kernel
theorem dX7_others_8 : decode cX7_others 8 = .ok (.arraylength, 1) := by decide +kernel
theorem dX7_others_9 : decode cX7_others 9 = .ok (.istore_n 3, 1) := by decide +kernel
theorem dX7_others_10 : decode cX7_others 10 = .ok (.iconst 0, 1) := by decide +kernel
theorem dX7_others_11 : decode cX7_others 11 = .ok (.istore 4, 2) := by decide +kernel
theorem dX7_others_13 : decode cX7_others 13 = .ok (.iload 4, 2) := by decide +kernel
theorem dX7_others_15 : decode cX7_others 15 = .ok (.iload_n 3, 1) := by decide +kernel
theorem dX7_others_16 : decode cX7_others 16 = .ok (.if_icmp .ge 30, 3) := by decide +kernel
theorem dX7_others_19 : decode cX7_others 19 = .ok (.aload_n 2, 1) := by decide +kernel
theorem dX7_others_20 : decode cX7_others 20 = .ok (.iload 4, 2) := by decide +kernel
theorem dX7_others_22 : decode cX7_others 22 = .ok (.laload, 1) := by decide +kernel
theorem dX7_others_23 : decode cX7_others 23 = .ok (.lstore 5, 2) := by decide +kernel
theorem dX7_others_25 : decode cX7_others 25 = .ok (.iload_n 1, 1) := by decide +kernel
theorem dX7_others_26 : decode cX7_others 26 = .ok (.lload 5, 2) := by decide +kernel
theorem dX7_others_28 : decode cX7_others 28 = .ok (.lconst 0, 1) := by decide +kernel
theorem dX7_others_29 : decode cX7_others 29 = .ok (.lcmp, 1) := by decide +kernel
theorem dX7_others_30 : decode cX7_others 30 = .ok (.ifCond .ne 7, 3) := by decide +kernel
theorem dX7_others_33 : decode cX7_others 33 = .ok (.iconst 0, 1) := by decide +kernel
theorem dX7_others_34 : decode cX7_others 34 = .ok (.goto 4, 3) := by decide +kernel
theorem dX7_others_37 : decode cX7_others 37 = .ok (.iconst 1, 1) := by decide +kernel
theorem dX7_others_38 : decode cX7_others 38 = .ok (.iadd, 1) := by decide +kernel
theorem dX7_others_39 : decode cX7_others 39 = .ok (.istore_n 1, 1) := by decide +kernel
theorem dX7_others_40 : decode cX7_others 40 = .ok (.iinc 4 1, 3) := by decide +kernel
theorem dX7_others_43 : decode cX7_others 43 = .ok (.goto (-30), 3) := by decide +kernel
theorem dX7_others_46 : decode cX7_others 46 = .ok (.iload_n 1, 1) := by decide +kernel
theorem dX7_others_47 : decode cX7_others 47 = .ok (.ireturn, 1) := by decide +kernel
theorem dX7_isSame_0 : decode cX7_isSame 0 = .ok (.aload_n 0, 1) := by decide +kernel
theorem dX7_isSame_1 : decode cX7_isSame 1 = .ok (.getfield 9, 3) := by decide +kernel
theorem dX7_isSame_4 : decode cX7_isSame 4 = .ok (.aload_n 1, 1) := by decide +kernel
theorem dX7_isSame_5 : decode cX7_isSame 5 = .ok (.getfield 9, 3) := by decide +kernel
theorem dX7_isSame_8 : decode cX7_isSame 8 = .ok (.if_icmp .ne 14, 3) := by decide +kernel
theorem dX7_isSame_11 : decode cX7_isSame 11 = .ok (.aload_n 0, 1) := by decide +kernel
theorem dX7_isSame_12 : decode cX7_isSame 12 = .ok (.getfield 15, 3) := by decide +kernel
theorem dX7_isSame_15 : decode cX7_isSame 15 = .ok (.aload_n 1, 1) := by decide +kernel
theorem dX7_isSame_16 : decode cX7_isSame 16 = .ok (.getfield 15, 3) := by decide +kernel
theorem dX7_isSame_19 : decode cX7_isSame 19 = .ok (.if_icmp .eq 5, 3) := by decide +kernel
theorem dX7_isSame_22 : decode cX7_isSame 22 = .ok (.iconst 0, 1) := by decide +kernel
theorem dX7_isSame_23 : decode cX7_isSame 23 = .ok (.ireturn, 1) := by decide +kernel
theorem dX7_isSame_24 : decode cX7_isSame 24 = .ok (.iconst 0, 1) := by decide +kernel
theorem dX7_isSame_25 : decode cX7_isSame 25 = .ok (.istore_n 2, 1) := by decide +kernel
theorem dX7_isSame_26 : decode cX7_isSame 26 = .ok (.iload_n 2, 1) := by decide +kernel
theorem dX7_isSame_27 : decode cX7_isSame 27 = .ok (.aload_n 0, 1) := by decide +kernel
theorem dX7_isSame_28 : decode cX7_isSame 28 = .ok (.getfield 18, 3) := by decide +kernel
theorem dX7_isSame_31 : decode cX7_isSame 31 = .ok (.arraylength, 1) := by decide +kernel
theorem dX7_isSame_32 : decode cX7_isSame 32 = .ok (.if_icmp .ge 27, 3) := by decide +kernel
theorem dX7_isSame_35 : decode cX7_isSame 35 = .ok (.aload_n 0, 1) := by decide +kernel
theorem dX7_isSame_36 : decode cX7_isSame 36 = .ok (.getfield 18, 3) := by decide +kernel
theorem dX7_isSame_39 : decode cX7_isSame 39 = .ok (.iload_n 2, 1) := by decide +kernel
theorem dX7_isSame_40 : decode cX7_isSame 40 = .ok (.laload, 1) := by decide +kernel
theorem dX7_isSame_41 : decode cX7_isSame 41 = .ok (.aload_n 1, 1) := by decide +kernel
theorem dX7_isSame_42 : decode cX7_isSame 42 = .ok (.getfield 18, 3) := by decide +kernel
theorem dX7_isSame_45 : decode cX7_isSame 45 = .ok (.iload_n 2, 1) := by decide +kernel
theorem dX7_isSame_46 : decode cX7_isSame 46 = .ok (.laload, 1) := by decide +kernel
theorem dX7_isSame_47 : decode cX7_isSame 47 = .ok (.lcmp, 1) := by decide +kernel
theorem dX7_isSame_48 : decode cX7_isSame 48 = .ok (.ifCond .eq 5, 3) := by decide +kernel
theorem dX7_isSame_51 : decode cX7_isSame 51 = .ok (.iconst 0, 1) := by decide +kernel
theorem dX7_isSame_52 : decode cX7_isSame 52 = .ok (.ireturn, 1) := by decide +kernel
theorem dX7_isSame_53 : decode cX7_isSame 53 = .ok (.iinc 2 1, 3) := by decide +kernel
theorem dX7_isSame_56 : decode cX7_isSame 56 = .ok (.goto (-30), 3) := by decide +kernel
theorem dX7_isSame_59 : decode cX7_isSame 59 = .ok (.iconst 1, 1) := by decide +kernel
theorem dX7_isSame_60 : decode cX7_isSame 60 = .ok (.ireturn, 1) := by decide +kernel
theorem dX7_unlike_0 : decode cX7_unlike 0 = .ok (.iconst 0, 1) := by decide +kernel
theorem dX7_unlike_1 : decode cX7_unlike 1 = .ok (.istore_n 2, 1) := by decide +kernel
theorem dX7_unlike_2 : decode cX7_unlike 2 = .ok (.iconst 0, 1) := by decide +kernel
theorem dX7_unlike_3 : decode cX7_unlike 3 = .ok (.istore_n 3, 1) := by decide +kernel
theorem dX7_unlike_4 : decode cX7_unlike 4 = .ok (.iload_n 3, 1) := by decide +kernel
theorem dX7_unlike_5 : decode cX7_unlike 5 = .ok (.aload_n 0, 1) := by decide +kernel
theorem dX7_unlike_6 : decode cX7_unlike 6 = .ok (.getfield 18, 3) := by decide +kernel
theorem dX7_unlike_9 : decode cX7_unlike 9 = .ok (.arraylength, 1) := by decide +kernel
theorem dX7_unlike_10 : decode cX7_unlike 10 = .ok (.if_icmp .ge 33, 3) := by decide +kernel
theorem dX7_unlike_13 : decode cX7_unlike 13 = .ok (.iload_n 2, 1) := by decide +kernel
theorem dX7_unlike_14 : decode cX7_unlike 14 = .ok (.aload_n 0, 1) := by decide +kernel
theorem dX7_unlike_15 : decode cX7_unlike 15 = .ok (.getfield 18, 3) := by decide +kernel
theorem dX7_unlike_18 : decode cX7_unlike 18 = .ok (.iload_n 3, 1) := by decide +kernel
theorem dX7_unlike_19 : decode cX7_unlike 19 = .ok (.laload, 1) := by decide +kernel
theorem dX7_unlike_20 : decode cX7_unlike 20 = .ok (.aload_n 1, 1) := by decide +kernel
theorem dX7_unlike_21 : decode cX7_unlike 21 = .ok (.getfield 18, 3) := by decide +kernel
theorem dX7_unlike_24 : decode cX7_unlike 24 = .ok (.iload_n 3, 1) := by decide +kernel
theorem dX7_unlike_25 : decode cX7_unlike 25 = .ok (.laload, 1) := by decide +kernel
theorem dX7_unlike_26 : decode cX7_unlike 26 = .ok (.lcmp, 1) := by decide +kernel
theorem dX7_unlike_27 : decode cX7_unlike 27 = .ok (.ifCond .ne 7, 3) := by decide +kernel
theorem dX7_unlike_30 : decode cX7_unlike 30 = .ok (.iconst 0, 1) := by decide +kernel
theorem dX7_unlike_31 : decode cX7_unlike 31 = .ok (.goto 4, 3) := by decide +kernel
theorem dX7_unlike_34 : decode cX7_unlike 34 = .ok (.iconst 1, 1) := by decide +kernel
theorem dX7_unlike_35 : decode cX7_unlike 35 = .ok (.iadd, 1) := by decide +kernel
theorem dX7_unlike_36 : decode cX7_unlike 36 = .ok (.istore_n 2, 1) := by decide +kernel
theorem dX7_unlike_37 : decode cX7_unlike 37 = .ok (.iinc 3 1, 3) := by decide +kernel
theorem dX7_unlike_40 : decode cX7_unlike 40 = .ok (.goto (-36), 3) := by decide +kernel
theorem dX7_unlike_43 : decode cX7_unlike 43 = .ok (.iload_n 2, 1) := by decide +kernel
theorem dX7_unlike_44 : decode cX7_unlike 44 = .ok (.ireturn, 1) := by decide +kernel
theorem dX7_product_0 : decode cX7_product 0 = .ok (.new 10, 3) := by decide +kernel
theorem dX7_product_3 : decode cX7_product 3 = .ok (.dup, 1) := by decide +kernel
theorem dX7_product_4 : decode cX7_product 4 = .ok (.aload_n 0, 1) := by decide +kernel
theorem dX7_product_5 : decode cX7_product 5 = .ok (.getfield 9, 3) := by decide +kernel
theorem dX7_product_8 : decode cX7_product 8 = .ok (.aload_n 1, 1) := by decide +kernel
theorem dX7_product_9 : decode cX7_product 9 = .ok (.getfield 15, 3) := by decide +kernel
theorem dX7_product_12 : decode cX7_product 12 = .ok (.invokespecial 22, 3) := by decide +kernel
theorem dX7_product_15 : decode cX7_product 15 = .ok (.astore_n 2, 1) := by decide +kernel
theorem dX7_product_16 : decode cX7_product 16 = .ok (.iconst 0, 1) := by decide +kernel
theorem dX7_product_17 : decode cX7_product 17 = .ok (.istore_n 3, 1) := by decide +kernel
theorem dX7_product_18 : decode cX7_product 18 = .ok (.iload_n 3, 1) := by decide +kernel
theorem dX7_product_19 : decode cX7_product 19 = .ok (.aload_n 0, 1) := by decide +kernel
theorem dX7_product_20 : decode cX7_product 20 = .ok (.getfield 9, 3) := by decide +kernel
theorem dX7_product_23 : decode cX7_product 23 = .ok (.if_icmp .ge 78, 3) := by decide +kernel
theorem dX7_product_26 : decode cX7_product 26 = .ok (.iconst 0, 1) := by decide +kernel
theorem dX7_product_27 : decode cX7_product 27 = .ok (.istore 4, 2) := by decide +kernel
theorem dX7_product_29 : decode cX7_product 29 = .ok (.iload 4, 2) := by decide +kernel
theorem dX7_product_31 : decode cX7_product 31 = .ok (.aload_n 1, 1) := by decide +kernel
theorem dX7_product_32 : decode cX7_product 32 = .ok (.getfield 15, 3) := by decide +kernel
theorem dX7_product_35 : decode cX7_product 35 = .ok (.if_icmp .ge 60, 3) := by decide +kernel
theorem dX7_product_38 : decode cX7_product 38 = .ok (.lconst 0, 1) := by decide +kernel
theorem dX7_product_39 : decode cX7_product 39 = .ok (.lstore 5, 2) := by decide +kernel
theorem dX7_product_41 : decode cX7_product 41 = .ok (.iconst 0, 1) := by decide +kernel
theorem dX7_product_42 : decode cX7_product 42 = .ok (.istore 7, 2) := by decide +kernel
theorem dX7_product_44 : decode cX7_product 44 = .ok (.iload 7, 2) := by decide +kernel
theorem dX7_product_46 : decode cX7_product 46 = .ok (.aload_n 0, 1) := by decide +kernel
theorem dX7_product_47 : decode cX7_product 47 = .ok (.getfield 15, 3) := by decide +kernel
theorem dX7_product_50 : decode cX7_product 50 = .ok (.if_icmp .ge 30, 3) := by decide +kernel
theorem dX7_product_53 : decode cX7_product 53 = .ok (.lload 5, 2) := by decide +kernel
theorem dX7_product_55 : decode cX7_product 55 = .ok (.aload_n 0, 1) := by decide +kernel
theorem dX7_product_56 : decode cX7_product 56 = .ok (.iload_n 3, 1) := by decide +kernel
theorem dX7_product_57 : decode cX7_product 57 = .ok (.iload 7, 2) := by decide +kernel
theorem dX7_product_59 : decode cX7_product 59 = .ok (.invokevirtual 29, 3) := by decide +kernel
theorem dX7_product_62 : decode cX7_product 62 = .ok (.aload_n 1, 1) := by decide +kernel
theorem dX7_product_63 : decode cX7_product 63 = .ok (.iload 7, 2) := by decide +kernel
theorem dX7_product_65 : decode cX7_product 65 = .ok (.iload 4, 2) := by decide +kernel
theorem dX7_product_67 : decode cX7_product 67 = .ok (.invokevirtual 29, 3) := by decide +kernel
theorem dX7_product_70 : decode cX7_product 70 = .ok (.lmul, 1) := by decide +kernel
theorem dX7_product_71 : decode cX7_product 71 = .ok (.ladd, 1) := by decide +kernel
theorem dX7_product_72 : decode cX7_product 72 = .ok (.lstore 5, 2) := by decide +kernel
theorem dX7_product_74 : decode cX7_product 74 = .ok (.iinc 7 1, 3) := by decide +kernel
theorem dX7_product_77 : decode cX7_product 77 = .ok (.goto (-33), 3) := by decide +kernel
theorem dX7_product_80 : decode cX7_product 80 = .ok (.aload_n 2, 1) := by decide +kernel
theorem dX7_product_81 : decode cX7_product 81 = .ok (.iload_n 3, 1) := by decide +kernel
theorem dX7_product_82 : decode cX7_product 82 = .ok (.iload 4, 2) := by decide +kernel
theorem dX7_product_84 : decode cX7_product 84 = .ok (.lload 5, 2) := by decide +kernel
theorem dX7_product_86 : decode cX7_product 86 = .ok (.invokevirtual 25, 3) := by decide +kernel
theorem dX7_product_89 : decode cX7_product 89 = .ok (.iinc 4 1, 3) := by decide +kernel
theorem dX7_product_92 : decode cX7_product 92 = .ok (.goto (-63), 3) := by decide +kernel
theorem dX7_product_95 : decode cX7_product 95 = .ok (.iinc 3 1, 3) := by decide +kernel
theorem dX7_product_98 : decode cX7_product 98 = .ok (.goto (-80), 3) := by decide +kernel
theorem dX7_product_101 : decode cX7_product 101 = .ok (.aload_n 2, 1) := by decide +kernel
theorem dX7_product_102 : decode cX7_product 102 = .ok (.areturn, 1) := by decide +kernel
theorem dX7_minor_0 : decode cX7_minor 0 = .ok (.iload_n 1, 1) := by decide +kernel
theorem dX7_minor_1 : decode cX7_minor 1 = .ok (.invokestatic 41, 3) := by decide +kernel
theorem dX7_minor_4 : decode cX7_minor 4 = .ok (.istore_n 3, 1) := by decide +kernel
theorem dX7_minor_5 : decode cX7_minor 5 = .ok (.iload_n 1, 1) := by decide +kernel
theorem dX7_minor_6 : decode cX7_minor 6 = .ok (.iconst 1, 1) := by decide +kernel
theorem dX7_minor_7 : decode cX7_minor 7 = .ok (.iload_n 3, 1) := by decide +kernel
theorem dX7_minor_8 : decode cX7_minor 8 = .ok (.ishl, 1) := by decide +kernel
theorem dX7_minor_9 : decode cX7_minor 9 = .ok (.iconst (-1), 1) := by decide +kernel
theorem dX7_minor_10 : decode cX7_minor 10 = .ok (.ixor, 1) := by decide +kernel
theorem dX7_minor_11 : decode cX7_minor 11 = .ok (.iand, 1) := by decide +kernel
theorem dX7_minor_12 : decode cX7_minor 12 = .ok (.istore 4, 2) := by decide +kernel
theorem dX7_minor_14 : decode cX7_minor 14 = .ok (.iload 4, 2) := by decide +kernel
theorem dX7_minor_16 : decode cX7_minor 16 = .ok (.ifCond .ne 13, 3) := by decide +kernel
theorem dX7_minor_19 : decode cX7_minor 19 = .ok (.aload_n 0, 1) := by decide +kernel
theorem dX7_minor_20 : decode cX7_minor 20 = .ok (.iload_n 3, 1) := by decide +kernel
theorem dX7_minor_21 : decode cX7_minor 21 = .ok (.iload_n 2, 1) := by decide +kernel
theorem dX7_minor_22 : decode cX7_minor 22 = .ok (.invokestatic 41, 3) := by decide +kernel
theorem dX7_minor_25 : decode cX7_minor 25 = .ok (.invokevirtual 29, 3) := by decide +kernel
theorem dX7_minor_28 : decode cX7_minor 28 = .ok (.lreturn, 1) := by decide +kernel
theorem dX7_minor_29 : decode cX7_minor 29 = .ok (.lconst 0, 1) := by decide +kernel
theorem dX7_minor_30 : decode cX7_minor 30 = .ok (.lstore 5, 2) := by decide +kernel
theorem dX7_minor_32 : decode cX7_minor 32 = .ok (.iconst 1, 1) := by decide +kernel
theorem dX7_minor_33 : decode cX7_minor 33 = .ok (.istore 7, 2) := by decide +kernel
theorem dX7_minor_35 : decode cX7_minor 35 = .ok (.iconst 0, 1) := by decide +kernel
theorem dX7_minor_36 : decode cX7_minor 36 = .ok (.istore 8, 2) := by decide +kernel
theorem dX7_minor_38 : decode cX7_minor 38 = .ok (.iload 8, 2) := by decide +kernel
theorem dX7_minor_40 : decode cX7_minor 40 = .ok (.aload_n 0, 1) := by decide +kernel
theorem dX7_minor_41 : decode cX7_minor 41 = .ok (.getfield 15, 3) := by decide +kernel
theorem dX7_minor_44 : decode cX7_minor 44 = .ok (.if_icmp .ge 69, 3) := by decide +kernel
theorem dX7_minor_47 : decode cX7_minor 47 = .ok (.iload_n 2, 1) := by decide +kernel
theorem dX7_minor_48 : decode cX7_minor 48 = .ok (.iload 8, 2) := by decide +kernel
theorem dX7_minor_50 : decode cX7_minor 50 = .ok (.ishr, 1) := by decide +kernel
theorem dX7_minor_51 : decode cX7_minor 51 = .ok (.iconst 1, 1) := by decide +kernel
theorem dX7_minor_52 : decode cX7_minor 52 = .ok (.iand, 1) := by decide +kernel
theorem dX7_minor_53 : decode cX7_minor 53 = .ok (.ifCond .ne 6, 3) := by decide +kernel
theorem dX7_minor_56 : decode cX7_minor 56 = .ok (.goto 51, 3) := by decide +kernel
theorem dX7_minor_59 : decode cX7_minor 59 = .ok (.aload_n 0, 1) := by decide +kernel
theorem dX7_minor_60 : decode cX7_minor 60 = .ok (.iload_n 3, 1) := by decide +kernel
theorem dX7_minor_61 : decode cX7_minor 61 = .ok (.iload 8, 2) := by decide +kernel
theorem dX7_minor_63 : decode cX7_minor 63 = .ok (.invokevirtual 29, 3) := by decide +kernel
theorem dX7_minor_66 : decode cX7_minor 66 = .ok (.lconst 0, 1) := by decide +kernel
theorem dX7_minor_67 : decode cX7_minor 67 = .ok (.lcmp, 1) := by decide +kernel
theorem dX7_minor_68 : decode cX7_minor 68 = .ok (.ifCond .eq 34, 3) := by decide +kernel
theorem dX7_minor_71 : decode cX7_minor 71 = .ok (.lload 5, 2) := by decide +kernel
theorem dX7_minor_73 : decode cX7_minor 73 = .ok (.iload 7, 2) := by decide +kernel
theorem dX7_minor_75 : decode cX7_minor 75 = .ok (.i2l, 1) := by decide +kernel
theorem dX7_minor_76 : decode cX7_minor 76 = .ok (.aload_n 0, 1) := by decide +kernel
theorem dX7_minor_77 : decode cX7_minor 77 = .ok (.iload_n 3, 1) := by decide +kernel
theorem dX7_minor_78 : decode cX7_minor 78 = .ok (.iload 8, 2) := by decide +kernel
theorem dX7_minor_80 : decode cX7_minor 80 = .ok (.invokevirtual 29, 3) := by decide +kernel
theorem dX7_minor_83 : decode cX7_minor 83 = .ok (.lmul, 1) := by decide +kernel
theorem dX7_minor_84 : decode cX7_minor 84 = .ok (.aload_n 0, 1) := by decide +kernel
theorem dX7_minor_85 : decode cX7_minor 85 = .ok (.iload 4, 2) := by decide +kernel
theorem dX7_minor_87 : decode cX7_minor 87 = .ok (.iload_n 2, 1) := by decide +kernel
theorem dX7_minor_88 : decode cX7_minor 88 = .ok (.iconst 1, 1) := by decide +kernel
theorem dX7_minor_89 : decode cX7_minor 89 = .ok (.iload 8, 2) := by decide +kernel
theorem dX7_minor_91 : decode cX7_minor 91 = .ok (.ishl, 1) := by decide +kernel
theorem dX7_minor_92 : decode cX7_minor 92 = .ok (.iconst (-1), 1) := by decide +kernel
theorem dX7_minor_93 : decode cX7_minor 93 = .ok (.ixor, 1) := by decide +kernel
theorem dX7_minor_94 : decode cX7_minor 94 = .ok (.iand, 1) := by decide +kernel
theorem dX7_minor_95 : decode cX7_minor 95 = .ok (.invokevirtual 47, 3) := by decide +kernel
theorem dX7_minor_98 : decode cX7_minor 98 = .ok (.lmul, 1) := by decide +kernel
theorem dX7_minor_99 : decode cX7_minor 99 = .ok (.ladd, 1) := by decide +kernel
theorem dX7_minor_100 : decode cX7_minor 100 = .ok (.lstore 5, 2) := by decide +kernel
theorem dX7_minor_102 : decode cX7_minor 102 = .ok (.iload 7, 2) := by decide +kernel
theorem dX7_minor_104 : decode cX7_minor 104 = .ok (.ineg, 1) := by decide +kernel
theorem dX7_minor_105 : decode cX7_minor 105 = .ok (.istore 7, 2) := by decide +kernel
theorem dX7_minor_107 : decode cX7_minor 107 = .ok (.iinc 8 1, 3) := by decide +kernel
theorem dX7_minor_110 : decode cX7_minor 110 = .ok (.goto (-72), 3) := by decide +kernel
theorem dX7_minor_113 : decode cX7_minor 113 = .ok (.lload 5, 2) := by decide +kernel
theorem dX7_minor_115 : decode cX7_minor 115 = .ok (.lreturn, 1) := by decide +kernel
theorem dX7_divisor_0 : decode cX7_divisor 0 = .ok (.iload_n 1, 1) := by decide +kernel
theorem dX7_divisor_1 : decode cX7_divisor 1 = .ok (.ifCond .ne 5, 3) := by decide +kernel
theorem dX7_divisor_4 : decode cX7_divisor 4 = .ok (.lconst 1, 1) := by decide +kernel
theorem dX7_divisor_5 : decode cX7_divisor 5 = .ok (.lreturn, 1) := by decide +kernel
theorem dX7_divisor_6 : decode cX7_divisor 6 = .ok (.lconst 0, 1) := by decide +kernel
theorem dX7_divisor_7 : decode cX7_divisor 7 = .ok (.lstore_n 2, 1) := by decide +kernel
theorem dX7_divisor_8 : decode cX7_divisor 8 = .ok (.iconst 1, 1) := by decide +kernel
theorem dX7_divisor_9 : decode cX7_divisor 9 = .ok (.istore 4, 2) := by decide +kernel
theorem dX7_divisor_11 : decode cX7_divisor 11 = .ok (.iload 4, 2) := by decide +kernel
theorem dX7_divisor_13 : decode cX7_divisor 13 = .ok (.iconst 1, 1) := by decide +kernel
theorem dX7_divisor_14 : decode cX7_divisor 14 = .ok (.aload_n 0, 1) := by decide +kernel
theorem dX7_divisor_15 : decode cX7_divisor 15 = .ok (.getfield 9, 3) := by decide +kernel
theorem dX7_divisor_18 : decode cX7_divisor 18 = .ok (.ishl, 1) := by decide +kernel
theorem dX7_divisor_19 : decode cX7_divisor 19 = .ok (.if_icmp .ge 63, 3) := by decide +kernel
theorem dX7_divisor_22 : decode cX7_divisor 22 = .ok (.iload 4, 2) := by decide +kernel
theorem dX7_divisor_24 : decode cX7_divisor 24 = .ok (.invokestatic 50, 3) := by decide +kernel
theorem dX7_divisor_27 : decode cX7_divisor 27 = .ok (.iload_n 1, 1) := by decide +kernel
theorem dX7_divisor_28 : decode cX7_divisor 28 = .ok (.if_icmp .eq 6, 3) := by decide +kernel
theorem dX7_divisor_31 : decode cX7_divisor 31 = .ok (.goto 45, 3) := by decide +kernel
theorem dX7_divisor_34 : decode cX7_divisor 34 = .ok (.iconst 1, 1) := by decide +kernel
theorem dX7_divisor_35 : decode cX7_divisor 35 = .ok (.istore 5, 2) := by decide +kernel
theorem dX7_divisor_37 : decode cX7_divisor 37 = .ok (.iload 5, 2) := by decide +kernel
theorem dX7_divisor_39 : decode cX7_divisor 39 = .ok (.iconst 1, 1) := by decide +kernel
theorem dX7_divisor_40 : decode cX7_divisor 40 = .ok (.aload_n 0, 1) := by decide +kernel
theorem dX7_divisor_41 : decode cX7_divisor 41 = .ok (.getfield 15, 3) := by decide +kernel
theorem dX7_divisor_44 : decode cX7_divisor 44 = .ok (.ishl, 1) := by decide +kernel
theorem dX7_divisor_45 : decode cX7_divisor 45 = .ok (.if_icmp .ge 31, 3) := by decide +kernel
theorem dX7_divisor_48 : decode cX7_divisor 48 = .ok (.iload 5, 2) := by decide +kernel
theorem dX7_divisor_50 : decode cX7_divisor 50 = .ok (.invokestatic 50, 3) := by decide +kernel
theorem dX7_divisor_53 : decode cX7_divisor 53 = .ok (.iload_n 1, 1) := by decide +kernel
theorem dX7_divisor_54 : decode cX7_divisor 54 = .ok (.if_icmp .ne 16, 3) := by decide +kernel
theorem dX7_divisor_57 : decode cX7_divisor 57 = .ok (.lload_n 2, 1) := by decide +kernel
theorem dX7_divisor_58 : decode cX7_divisor 58 = .ok (.aload_n 0, 1) := by decide +kernel
theorem dX7_divisor_59 : decode cX7_divisor 59 = .ok (.iload 4, 2) := by decide +kernel
theorem dX7_divisor_61 : decode cX7_divisor 61 = .ok (.iload 5, 2) := by decide +kernel
theorem dX7_divisor_63 : decode cX7_divisor 63 = .ok (.invokevirtual 47, 3) := by decide +kernel
theorem dX7_divisor_66 : decode cX7_divisor 66 = .ok (.invokestatic 53, 3) := by decide +kernel
theorem dX7_divisor_69 : decode cX7_divisor 69 = .ok (.lstore_n 2, 1) := by decide +kernel
theorem dX7_divisor_70 : decode cX7_divisor 70 = .ok (.iinc 5 1, 3) := by decide +kernel
theorem dX7_divisor_73 : decode cX7_divisor 73 = .ok (.goto (-36), 3) := by decide +kernel
theorem dX7_divisor_76 : decode cX7_divisor 76 = .ok (.iinc 4 1, 3) := by decide +kernel
theorem dX7_divisor_79 : decode cX7_divisor 79 = .ok (.goto (-68), 3) := by decide +kernel
theorem dX7_divisor_82 : decode cX7_divisor 82 = .ok (.lload_n 2, 1) := by decide +kernel
theorem dX7_divisor_83 : decode cX7_divisor 83 = .ok (.lreturn, 1) := by decide +kernel
theorem dX7_rank_0 : decode cX7_rank 0 = .ok (.iconst 0, 1) := by decide +kernel
theorem dX7_rank_1 : decode cX7_rank 1 = .ok (.istore_n 1, 1) := by decide +kernel
theorem dX7_rank_2 : decode cX7_rank 2 = .ok (.iconst 1, 1) := by decide +kernel
theorem dX7_rank_3 : decode cX7_rank 3 = .ok (.istore_n 2, 1) := by decide +kernel
theorem dX7_rank_4 : decode cX7_rank 4 = .ok (.iload_n 2, 1) := by decide +kernel
theorem dX7_rank_5 : decode cX7_rank 5 = .ok (.aload_n 0, 1) := by decide +kernel
theorem dX7_rank_6 : decode cX7_rank 6 = .ok (.getfield 9, 3) := by decide +kernel
theorem dX7_rank_9 : decode cX7_rank 9 = .ok (.aload_n 0, 1) := by decide +kernel
theorem dX7_rank_10 : decode cX7_rank 10 = .ok (.getfield 15, 3) := by decide +kernel
theorem dX7_rank_13 : decode cX7_rank 13 = .ok (.invokestatic 57, 3) := by decide +kernel
theorem dX7_rank_16 : decode cX7_rank 16 = .ok (.if_icmp .gt 21, 3) := by decide +kernel
theorem dX7_rank_19 : decode cX7_rank 19 = .ok (.aload_n 0, 1) := by decide +kernel
theorem dX7_rank_20 : decode cX7_rank 20 = .ok (.iload_n 2, 1) := by decide +kernel
theorem dX7_rank_21 : decode cX7_rank 21 = .ok (.invokevirtual 63, 3) := by decide +kernel
theorem dX7_rank_24 : decode cX7_rank 24 = .ok (.lconst 0, 1) := by decide +kernel
theorem dX7_rank_25 : decode cX7_rank 25 = .ok (.lcmp, 1) := by decide +kernel
theorem dX7_rank_26 : decode cX7_rank 26 = .ok (.ifCond .eq 5, 3) := by decide +kernel
theorem dX7_rank_29 : decode cX7_rank 29 = .ok (.iload_n 2, 1) := by decide +kernel
theorem dX7_rank_30 : decode cX7_rank 30 = .ok (.istore_n 1, 1) := by decide +kernel
theorem dX7_rank_31 : decode cX7_rank 31 = .ok (.iinc 2 1, 3) := by decide +kernel
theorem dX7_rank_34 : decode cX7_rank 34 = .ok (.goto (-30), 3) := by decide +kernel
theorem dX7_rank_37 : decode cX7_rank 37 = .ok (.iload_n 1, 1) := by decide +kernel
theorem dX7_rank_38 : decode cX7_rank 38 = .ok (.ireturn, 1) := by decide +kernel
theorem dX8_init_0 : decode cX8_init 0 = .ok (.aload_n 0, 1) := by decide +kernel
theorem dX8_init_1 : decode cX8_init 1 = .ok (.invokespecial 1, 3) := by decide +kernel
theorem dX8_init_4 : decode cX8_init 4 = .ok (.aload_n 0, 1) := by decide +kernel
theorem dX8_init_5 : decode cX8_init 5 = .ok (.iconst 1, 1) := by decide +kernel
theorem dX8_init_6 : decode cX8_init 6 = .ok (.putfield 7, 3) := by decide +kernel
theorem dX8_init_9 : decode cX8_init 9 = .ok (.aload_n 0, 1) := by decide +kernel
theorem dX8_init_10 : decode cX8_init 10 = .ok (.aload_n 1, 1) := by decide +kernel
theorem dX8_init_11 : decode cX8_init 11 = .ok (.invokevirtual 13, 3) := by decide +kernel
theorem dX8_init_14 : decode cX8_init 14 = .ok (.putfield 19, 3) := by decide +kernel
theorem dX8_init_17 : decode cX8_init 17 = .ok (.aload_n 0, 1) := by decide +kernel
theorem dX8_init_18 : decode cX8_init 18 = .ok (.aload_n 1, 1) := by decide +kernel
theorem dX8_init_19 : decode cX8_init 19 = .ok (.getfield 23, 3) := by decide +kernel
theorem dX8_init_22 : decode cX8_init 22 = .ok (.invokestatic 26, 3) := by decide +kernel
theorem dX8_init_25 : decode cX8_init 25 = .ok (.putfield 30, 3) := by decide +kernel
theorem dX8_init_28 : decode cX8_init 28 = .ok (.iconst 0, 1) := by decide +kernel
theorem dX8_init_29 : decode cX8_init 29 = .ok (.istore_n 2, 1) := by decide +kernel
theorem dX8_init_30 : decode cX8_init 30 = .ok (.iconst 0, 1) := by decide +kernel
theorem dX8_init_31 : decode cX8_init 31 = .ok (.istore_n 3, 1) := by decide +kernel
theorem dX8_init_32 : decode cX8_init 32 = .ok (.iload_n 3, 1) := by decide +kernel
theorem dX8_init_33 : decode cX8_init 33 = .ok (.aload_n 0, 1) := by decide +kernel
theorem dX8_init_34 : decode cX8_init 34 = .ok (.getfield 19, 3) := by decide +kernel
theorem dX8_init_37 : decode cX8_init 37 = .ok (.getfield 33, 3) := by decide +kernel
theorem dX8_init_40 : decode cX8_init 40 = .ok (.if_icmp .ge 39, 3) := by decide +kernel
theorem dX8_init_43 : decode cX8_init 43 = .ok (.iload_n 2, 1) := by decide +kernel
theorem dX8_init_44 : decode cX8_init 44 = .ok (.aload_n 0, 1) := by decide +kernel
theorem dX8_init_45 : decode cX8_init 45 = .ok (.getfield 19, 3) := by decide +kernel
theorem dX8_init_48 : decode cX8_init 48 = .ok (.getfield 23, 3) := by decide +kernel
theorem dX8_init_51 : decode cX8_init 51 = .ok (.if_icmp .ge 28, 3) := by decide +kernel
theorem dX8_init_54 : decode cX8_init 54 = .ok (.aload_n 0, 1) := by decide +kernel
theorem dX8_init_55 : decode cX8_init 55 = .ok (.getfield 36, 3) := by decide +kernel
theorem dX8_init_58 : decode cX8_init 58 = .ok (.ifCond .ne 21, 3) := by decide +kernel
theorem dX8_init_61 : decode cX8_init 61 = .ok (.aload_n 0, 1) := by decide +kernel
theorem dX8_init_62 : decode cX8_init 62 = .ok (.iload_n 2, 1) := by decide +kernel
theorem dX8_init_63 : decode cX8_init 63 = .ok (.iload_n 3, 1) := by decide +kernel
theorem dX8_init_64 : decode cX8_init 64 = .ok (.invokevirtual 40, 3) := by decide +kernel
theorem dX8_init_67 : decode cX8_init 67 = .ok (.ifCond .eq 6, 3) := by decide +kernel
theorem dX8_init_70 : decode cX8_init 70 = .ok (.iinc 2 1, 3) := by decide +kernel
theorem dX8_init_73 : decode cX8_init 73 = .ok (.iinc 3 1, 3) := by decide +kernel
theorem dX8_init_76 : decode cX8_init 76 = .ok (.goto (-44), 3) := by decide +kernel
theorem dX8_init_79 : decode cX8_init 79 = .ok (.return_, 1) := by decide +kernel
theorem dX8_takeOff_0 : decode cX8_takeOff 0 = .ok (.aload_n 0, 1) := by decide +kernel
theorem dX8_takeOff_1 : decode cX8_takeOff 1 = .ok (.getfield 19, 3) := by decide +kernel
theorem dX8_takeOff_4 : decode cX8_takeOff 4 = .ok (.iload_n 1, 1) := by decide +kernel
theorem dX8_takeOff_5 : decode cX8_takeOff 5 = .ok (.iload_n 3, 1) := by decide +kernel
theorem dX8_takeOff_6 : decode cX8_takeOff 6 = .ok (.invokevirtual 44, 3) := by decide +kernel
theorem dX8_takeOff_9 : decode cX8_takeOff 9 = .ok (.aload_n 0, 1) := by decide +kernel
theorem dX8_takeOff_10 : decode cX8_takeOff 10 = .ok (.getfield 19, 3) := by decide +kernel
theorem dX8_takeOff_13 : decode cX8_takeOff 13 = .ok (.iload_n 2, 1) := by decide +kernel
theorem dX8_takeOff_14 : decode cX8_takeOff 14 = .ok (.iload_n 3, 1) := by decide +kernel
theorem dX8_takeOff_15 : decode cX8_takeOff 15 = .ok (.invokevirtual 44, 3) := by decide +kernel
theorem dX8_takeOff_18 : decode cX8_takeOff 18 = .ok (.invokestatic 48, 3) := by decide +kernel
theorem dX8_takeOff_21 : decode cX8_takeOff 21 = .ok (.lstore 4, 2) := by decide +kernel
theorem dX8_takeOff_23 : decode cX8_takeOff 23 = .ok (.lload 4, 2) := by decide +kernel
theorem dX8_takeOff_25 : decode cX8_takeOff 25 = .ok (.lconst 0, 1) := by decide +kernel
theorem dX8_takeOff_26 : decode cX8_takeOff 26 = .ok (.lcmp, 1) := by decide +kernel
theorem dX8_takeOff_27 : decode cX8_takeOff 27 = .ok (.ifCond .eq 10, 3) := by decide +kernel
theorem dX8_takeOff_30 : decode cX8_takeOff 30 = .ok (.aload_n 0, 1) := by decide +kernel
theorem dX8_takeOff_31 : decode cX8_takeOff 31 = .ok (.getfield 36, 3) := by decide +kernel
theorem dX8_takeOff_34 : decode cX8_takeOff 34 = .ok (.ifCond .eq 4, 3) := by decide +kernel
theorem dX8_takeOff_37 : decode cX8_takeOff 37 = .ok (.return_, 1) := by decide +kernel
theorem dX8_takeOff_38 : decode cX8_takeOff 38 = .ok (.aload_n 0, 1) := by decide +kernel
theorem dX8_takeOff_39 : decode cX8_takeOff 39 = .ok (.getfield 19, 3) := by decide +kernel
theorem dX8_takeOff_42 : decode cX8_takeOff 42 = .ok (.iload_n 1, 1) := by decide +kernel
theorem dX8_takeOff_43 : decode cX8_takeOff 43 = .ok (.iload_n 2, 1) := by decide +kernel
theorem dX8_takeOff_44 : decode cX8_takeOff 44 = .ok (.lload 4, 2) := by decide +kernel
theorem dX8_takeOff_46 : decode cX8_takeOff 46 = .ok (.lneg, 1) := by decide +kernel
theorem dX8_takeOff_47 : decode cX8_takeOff 47 = .ok (.invokevirtual 54, 3) := by decide +kernel
theorem dX8_takeOff_50 : decode cX8_takeOff 50 = .ok (.aload_n 0, 1) := by decide +kernel
theorem dX8_takeOff_51 : decode cX8_takeOff 51 = .ok (.getfield 30, 3) := by decide +kernel
theorem dX8_takeOff_54 : decode cX8_takeOff 54 = .ok (.iload_n 1, 1) := by decide +kernel
theorem dX8_takeOff_55 : decode cX8_takeOff 55 = .ok (.iload_n 2, 1) := by decide +kernel
theorem dX8_takeOff_56 : decode cX8_takeOff 56 = .ok (.lload 4, 2) := by decide +kernel
theorem dX8_takeOff_58 : decode cX8_takeOff 58 = .ok (.lneg, 1) := by decide +kernel
theorem dX8_takeOff_59 : decode cX8_takeOff 59 = .ok (.invokevirtual 54, 3) := by decide +kernel
theorem dX8_takeOff_62 : decode cX8_takeOff 62 = .ok (.aload_n 0, 1) := by decide +kernel
theorem dX8_takeOff_63 : decode cX8_takeOff 63 = .ok (.aload_n 0, 1) := by decide +kernel
theorem dX8_takeOff_64 : decode cX8_takeOff 64 = .ok (.getfield 19, 3) := by decide +kernel
theorem dX8_takeOff_67 : decode cX8_takeOff 67 = .ok (.invokevirtual 58, 3) := by decide +kernel
theorem dX8_takeOff_70 : decode cX8_takeOff 70 = .ok (.ifCond .ne 13, 3) := by decide +kernel
theorem dX8_takeOff_73 : decode cX8_takeOff 73 = .ok (.aload_n 0, 1) := by decide +kernel
theorem dX8_takeOff_74 : decode cX8_takeOff 74 = .ok (.getfield 30, 3) := by decide +kernel
theorem dX8_takeOff_77 : decode cX8_takeOff 77 = .ok (.invokevirtual 58, 3) := by decide +kernel
theorem dX8_takeOff_80 : decode cX8_takeOff 80 = .ok (.ifCond .eq 7, 3) := by decide +kernel
theorem dX8_takeOff_83 : decode cX8_takeOff 83 = .ok (.iconst 1, 1) := by decide +kernel
theorem dX8_takeOff_84 : decode cX8_takeOff 84 = .ok (.goto 4, 3) := by decide +kernel
theorem dX8_takeOff_87 : decode cX8_takeOff 87 = .ok (.iconst 0, 1) := by decide +kernel
theorem dX8_takeOff_88 : decode cX8_takeOff 88 = .ok (.putfield 36, 3) := by decide +kernel
theorem dX8_takeOff_91 : decode cX8_takeOff 91 = .ok (.return_, 1) := by decide +kernel
theorem dX8_least_0 : decode cX8_least 0 = .ok (.iconst (-1), 1) := by decide +kernel
theorem dX8_least_1 : decode cX8_least 1 = .ok (.istore_n 3, 1) := by decide +kernel
theorem dX8_least_2 : decode cX8_least 2 = .ok (.iload_n 1, 1) := by decide +kernel
theorem dX8_least_3 : decode cX8_least 3 = .ok (.istore 4, 2) := by decide +kernel
theorem dX8_least_5 : decode cX8_least 5 = .ok (.iload 4, 2) := by decide +kernel
theorem dX8_least_7 : decode cX8_least 7 = .ok (.aload_n 0, 1) := by decide +kernel
theorem dX8_least_8 : decode cX8_least 8 = .ok (.getfield 19, 3) := by decide +kernel
theorem dX8_least_11 : decode cX8_least 11 = .ok (.getfield 23, 3) := by decide +kernel
theorem dX8_least_14 : decode cX8_least 14 = .ok (.if_icmp .ge 60, 3) := by decide +kernel
theorem dX8_least_17 : decode cX8_least 17 = .ok (.aload_n 0, 1) := by decide +kernel
theorem dX8_least_18 : decode cX8_least 18 = .ok (.getfield 19, 3) := by decide +kernel
theorem dX8_least_21 : decode cX8_least 21 = .ok (.iload 4, 2) := by decide +kernel
theorem dX8_least_23 : decode cX8_least 23 = .ok (.iload_n 2, 1) := by decide +kernel
theorem dX8_least_24 : decode cX8_least 24 = .ok (.invokevirtual 44, 3) := by decide +kernel
theorem dX8_least_27 : decode cX8_least 27 = .ok (.lconst 0, 1) := by decide +kernel
theorem dX8_least_28 : decode cX8_least 28 = .ok (.lcmp, 1) := by decide +kernel
theorem dX8_least_29 : decode cX8_least 29 = .ok (.ifCond .eq 39, 3) := by decide +kernel
theorem dX8_least_32 : decode cX8_least 32 = .ok (.iload_n 3, 1) := by decide +kernel
theorem dX8_least_33 : decode cX8_least 33 = .ok (.ifCond .lt 32, 3) := by decide +kernel
theorem dX8_least_36 : decode cX8_least 36 = .ok (.aload_n 0, 1) := by decide +kernel
theorem dX8_least_37 : decode cX8_least 37 = .ok (.getfield 19, 3) := by decide +kernel
theorem dX8_least_40 : decode cX8_least 40 = .ok (.iload 4, 2) := by decide +kernel
theorem dX8_least_42 : decode cX8_least 42 = .ok (.iload_n 2, 1) := by decide +kernel
theorem dX8_least_43 : decode cX8_least 43 = .ok (.invokevirtual 44, 3) := by decide +kernel
theorem dX8_least_46 : decode cX8_least 46 = .ok (.invokestatic 61, 3) := by decide +kernel
theorem dX8_least_49 : decode cX8_least 49 = .ok (.aload_n 0, 1) := by decide +kernel
theorem dX8_least_50 : decode cX8_least 50 = .ok (.getfield 19, 3) := by decide +kernel
theorem dX8_least_53 : decode cX8_least 53 = .ok (.iload_n 3, 1) := by decide +kernel
theorem dX8_least_54 : decode cX8_least 54 = .ok (.iload_n 2, 1) := by decide +kernel
theorem dX8_least_55 : decode cX8_least 55 = .ok (.invokevirtual 44, 3) := by decide +kernel
theorem dX8_least_58 : decode cX8_least 58 = .ok (.invokestatic 61, 3) := by decide +kernel
theorem dX8_least_61 : decode cX8_least 61 = .ok (.lcmp, 1) := by decide +kernel
theorem dX8_least_62 : decode cX8_least 62 = .ok (.ifCond .ge 6, 3) := by decide +kernel
theorem dX8_least_65 : decode cX8_least 65 = .ok (.iload 4, 2) := by decide +kernel
theorem dX8_least_67 : decode cX8_least 67 = .ok (.istore_n 3, 1) := by decide +kernel
theorem dX8_least_68 : decode cX8_least 68 = .ok (.iinc 4 1, 3) := by decide +kernel
theorem dX8_least_71 : decode cX8_least 71 = .ok (.goto (-66), 3) := by decide +kernel
theorem dX8_least_74 : decode cX8_least 74 = .ok (.iload_n 3, 1) := by decide +kernel
theorem dX8_least_75 : decode cX8_least 75 = .ok (.ireturn, 1) := by decide +kernel
theorem dX8_isCleared_0 : decode cX8_isCleared 0 = .ok (.iconst 1, 1) := by decide +kernel
theorem dX8_isCleared_1 : decode cX8_isCleared 1 = .ok (.istore_n 3, 1) := by decide +kernel
theorem dX8_isCleared_2 : decode cX8_isCleared 2 = .ok (.iload_n 3, 1) := by decide +kernel
theorem dX8_isCleared_3 : decode cX8_isCleared 3 = .ok (.ifCond .eq 158, 3) := by decide +kernel
theorem dX8_isCleared_6 : decode cX8_isCleared 6 = .ok (.aload_n 0, 1) := by decide +kernel
theorem dX8_isCleared_7 : decode cX8_isCleared 7 = .ok (.getfield 36, 3) := by decide +kernel
theorem dX8_isCleared_10 : decode cX8_isCleared 10 = .ok (.ifCond .ne 151, 3) := by decide +kernel
theorem dX8_isCleared_13 : decode cX8_isCleared 13 = .ok (.aload_n 0, 1) := by decide +kernel
theorem dX8_isCleared_14 : decode cX8_isCleared 14 = .ok (.iload_n 1, 1) := by decide +kernel
theorem dX8_isCleared_15 : decode cX8_isCleared 15 = .ok (.iload_n 2, 1) := by decide +kernel
theorem dX8_isCleared_16 : decode cX8_isCleared 16 = .ok (.invokevirtual 65, 3) := by decide +kernel
theorem dX8_isCleared_19 : decode cX8_isCleared 19 = .ok (.istore 4, 2) := by decide +kernel
theorem dX8_isCleared_21 : decode cX8_isCleared 21 = .ok (.iload 4, 2) := by decide +kernel
theorem dX8_isCleared_23 : decode cX8_isCleared 23 = .ok (.ifCond .ge 5, 3) := by decide +kernel
theorem dX8_isCleared_26 : decode cX8_isCleared 26 = .ok (.iconst 0, 1) := by decide +kernel
theorem dX8_isCleared_27 : decode cX8_isCleared 27 = .ok (.ireturn, 1) := by decide +kernel
theorem dX8_isCleared_28 : decode cX8_isCleared 28 = .ok (.iload 4, 2) := by decide +kernel
theorem dX8_isCleared_30 : decode cX8_isCleared 30 = .ok (.iload_n 1, 1) := by decide +kernel
theorem dX8_isCleared_31 : decode cX8_isCleared 31 = .ok (.if_icmp .eq 32, 3) := by decide +kernel
theorem dX8_isCleared_34 : decode cX8_isCleared 34 = .ok (.aload_n 0, 1) := by decide +kernel
theorem dX8_isCleared_35 : decode cX8_isCleared 35 = .ok (.getfield 19, 3) := by decide +kernel
theorem dX8_isCleared_38 : decode cX8_isCleared 38 = .ok (.iload 4, 2) := by decide +kernel
theorem dX8_isCleared_40 : decode cX8_isCleared 40 = .ok (.iload_n 1, 1) := by decide +kernel
theorem dX8_isCleared_41 : decode cX8_isCleared 41 = .ok (.invokevirtual 69, 3) := by decide +kernel
theorem dX8_isCleared_44 : decode cX8_isCleared 44 = .ok (.aload_n 0, 1) := by decide +kernel
theorem dX8_isCleared_45 : decode cX8_isCleared 45 = .ok (.getfield 30, 3) := by decide +kernel
theorem dX8_isCleared_48 : decode cX8_isCleared 48 = .ok (.iload 4, 2) := by decide +kernel
theorem dX8_isCleared_50 : decode cX8_isCleared 50 = .ok (.iload_n 1, 1) := by decide +kernel
theorem dX8_isCleared_51 : decode cX8_isCleared 51 = .ok (.invokevirtual 69, 3) := by decide +kernel
theorem dX8_isCleared_54 : decode cX8_isCleared 54 = .ok (.aload_n 0, 1) := by decide +kernel
theorem dX8_isCleared_55 : decode cX8_isCleared 55 = .ok (.aload_n 0, 1) := by decide +kernel
theorem dX8_isCleared_56 : decode cX8_isCleared 56 = .ok (.getfield 7, 3) := by decide +kernel
theorem dX8_isCleared_59 : decode cX8_isCleared 59 = .ok (.ineg, 1) := by decide +kernel
theorem dX8_isCleared_60 : decode cX8_isCleared 60 = .ok (.putfield 7, 3) := by decide +kernel
theorem dX8_isCleared_63 : decode cX8_isCleared 63 = .ok (.aload_n 0, 1) := by decide +kernel
theorem dX8_isCleared_64 : decode cX8_isCleared 64 = .ok (.getfield 19, 3) := by decide +kernel
theorem dX8_isCleared_67 : decode cX8_isCleared 67 = .ok (.iload_n 1, 1) := by decide +kernel
theorem dX8_isCleared_68 : decode cX8_isCleared 68 = .ok (.iload_n 2, 1) := by decide +kernel
theorem dX8_isCleared_69 : decode cX8_isCleared 69 = .ok (.invokevirtual 44, 3) := by decide +kernel
theorem dX8_isCleared_72 : decode cX8_isCleared 72 = .ok (.lconst 0, 1) := by decide +kernel
theorem dX8_isCleared_73 : decode cX8_isCleared 73 = .ok (.lcmp, 1) := by decide +kernel
theorem dX8_isCleared_74 : decode cX8_isCleared 74 = .ok (.ifCond .ge 28, 3) := by decide +kernel
theorem dX8_isCleared_77 : decode cX8_isCleared 77 = .ok (.aload_n 0, 1) := by decide +kernel
theorem dX8_isCleared_78 : decode cX8_isCleared 78 = .ok (.getfield 19, 3) := by decide +kernel
theorem dX8_isCleared_81 : decode cX8_isCleared 81 = .ok (.iload_n 1, 1) := by decide +kernel
theorem dX8_isCleared_82 : decode cX8_isCleared 82 = .ok (.invokevirtual 73, 3) := by decide +kernel
theorem dX8_isCleared_85 : decode cX8_isCleared 85 = .ok (.aload_n 0, 1) := by decide +kernel
theorem dX8_isCleared_86 : decode cX8_isCleared 86 = .ok (.getfield 30, 3) := by decide +kernel
theorem dX8_isCleared_89 : decode cX8_isCleared 89 = .ok (.iload_n 1, 1) := by decide +kernel
theorem dX8_isCleared_90 : decode cX8_isCleared 90 = .ok (.invokevirtual 73, 3) := by decide +kernel
theorem dX8_isCleared_93 : decode cX8_isCleared 93 = .ok (.aload_n 0, 1) := by decide +kernel
theorem dX8_isCleared_94 : decode cX8_isCleared 94 = .ok (.aload_n 0, 1) := by decide +kernel
theorem dX8_isCleared_95 : decode cX8_isCleared 95 = .ok (.getfield 7, 3) := by decide +kernel
theorem dX8_isCleared_98 : decode cX8_isCleared 98 = .ok (.ineg, 1) := by decide +kernel
theorem dX8_isCleared_99 : decode cX8_isCleared 99 = .ok (.putfield 7, 3) := by decide +kernel
theorem dX8_isCleared_102 : decode cX8_isCleared 102 = .ok (.iconst 0, 1) := by decide +kernel
theorem dX8_isCleared_103 : decode cX8_isCleared 103 = .ok (.istore_n 3, 1) := by decide +kernel
theorem dX8_isCleared_104 : decode cX8_isCleared 104 = .ok (.iload_n 1, 1) := by decide +kernel
theorem dX8_isCleared_105 : decode cX8_isCleared 105 = .ok (.iconst 1, 1) := by decide +kernel
theorem dX8_isCleared_106 : decode cX8_isCleared 106 = .ok (.iadd, 1) := by decide +kernel
theorem dX8_isCleared_107 : decode cX8_isCleared 107 = .ok (.istore 5, 2) := by decide +kernel
theorem dX8_isCleared_109 : decode cX8_isCleared 109 = .ok (.iload 5, 2) := by decide +kernel
theorem dX8_isCleared_111 : decode cX8_isCleared 111 = .ok (.aload_n 0, 1) := by decide +kernel
theorem dX8_isCleared_112 : decode cX8_isCleared 112 = .ok (.getfield 19, 3) := by decide +kernel
theorem dX8_isCleared_115 : decode cX8_isCleared 115 = .ok (.getfield 23, 3) := by decide +kernel
theorem dX8_isCleared_118 : decode cX8_isCleared 118 = .ok (.if_icmp .ge 40, 3) := by decide +kernel
theorem dX8_isCleared_121 : decode cX8_isCleared 121 = .ok (.aload_n 0, 1) := by decide +kernel
theorem dX8_isCleared_122 : decode cX8_isCleared 122 = .ok (.iload 5, 2) := by decide +kernel
theorem dX8_isCleared_124 : decode cX8_isCleared 124 = .ok (.iload_n 1, 1) := by decide +kernel
theorem dX8_isCleared_125 : decode cX8_isCleared 125 = .ok (.iload_n 2, 1) := by decide +kernel
theorem dX8_isCleared_126 : decode cX8_isCleared 126 = .ok (.invokevirtual 77, 3) := by decide +kernel
theorem dX8_isCleared_129 : decode cX8_isCleared 129 = .ok (.iload_n 3, 1) := by decide +kernel
theorem dX8_isCleared_130 : decode cX8_isCleared 130 = .ok (.aload_n 0, 1) := by decide +kernel
theorem dX8_isCleared_131 : decode cX8_isCleared 131 = .ok (.getfield 19, 3) := by decide +kernel
theorem dX8_isCleared_134 : decode cX8_isCleared 134 = .ok (.iload 5, 2) := by decide +kernel
theorem dX8_isCleared_136 : decode cX8_isCleared 136 = .ok (.iload_n 2, 1) := by decide +kernel
theorem dX8_isCleared_137 : decode cX8_isCleared 137 = .ok (.invokevirtual 44, 3) := by decide +kernel
theorem dX8_isCleared_140 : decode cX8_isCleared 140 = .ok (.lconst 0, 1) := by decide +kernel
theorem dX8_isCleared_141 : decode cX8_isCleared 141 = .ok (.lcmp, 1) := by decide +kernel
theorem dX8_isCleared_142 : decode cX8_isCleared 142 = .ok (.ifCond .eq 7, 3) := by decide +kernel
theorem dX8_isCleared_145 : decode cX8_isCleared 145 = .ok (.iconst 1, 1) := by decide +kernel
theorem dX8_isCleared_146 : decode cX8_isCleared 146 = .ok (.goto 4, 3) := by decide +kernel
theorem dX8_isCleared_149 : decode cX8_isCleared 149 = .ok (.iconst 0, 1) := by decide +kernel
theorem dX8_isCleared_150 : decode cX8_isCleared 150 = .ok (.ior, 1) := by decide +kernel
theorem dX8_isCleared_151 : decode cX8_isCleared 151 = .ok (.istore_n 3, 1) := by decide +kernel
theorem dX8_isCleared_152 : decode cX8_isCleared 152 = .ok (.iinc 5 1, 3) := by decide +kernel
theorem dX8_isCleared_155 : decode cX8_isCleared 155 = .ok (.goto (-46), 3) := by decide +kernel
theorem dX8_isCleared_158 : decode cX8_isCleared 158 = .ok (.goto (-156), 3) := by decide +kernel
theorem dX8_isCleared_161 : decode cX8_isCleared 161 = .ok (.iconst 0, 1) := by decide +kernel
theorem dX8_isCleared_162 : decode cX8_isCleared 162 = .ok (.istore 4, 2) := by decide +kernel
theorem dX8_isCleared_164 : decode cX8_isCleared 164 = .ok (.iload 4, 2) := by decide +kernel
theorem dX8_isCleared_166 : decode cX8_isCleared 166 = .ok (.iload_n 1, 1) := by decide +kernel
theorem dX8_isCleared_167 : decode cX8_isCleared 167 = .ok (.if_icmp .ge 17, 3) := by decide +kernel
theorem dX8_isCleared_170 : decode cX8_isCleared 170 = .ok (.aload_n 0, 1) := by decide +kernel
theorem dX8_isCleared_171 : decode cX8_isCleared 171 = .ok (.iload 4, 2) := by decide +kernel
theorem dX8_isCleared_173 : decode cX8_isCleared 173 = .ok (.iload_n 1, 1) := by decide +kernel
theorem dX8_isCleared_174 : decode cX8_isCleared 174 = .ok (.iload_n 2, 1) := by decide +kernel
theorem dX8_isCleared_175 : decode cX8_isCleared 175 = .ok (.invokevirtual 77, 3) := by decide +kernel
theorem dX8_isCleared_178 : decode cX8_isCleared 178 = .ok (.iinc 4 1, 3) := by decide +kernel
theorem dX8_isCleared_181 : decode cX8_isCleared 181 = .ok (.goto (-17), 3) := by decide +kernel
theorem dX8_isCleared_184 : decode cX8_isCleared 184 = .ok (.iconst 1, 1) := by decide +kernel
theorem dX8_isCleared_185 : decode cX8_isCleared 185 = .ok (.ireturn, 1) := by decide +kernel
theorem dX8_rank_0 : decode cX8_rank 0 = .ok (.iconst 0, 1) := by decide +kernel
theorem dX8_rank_1 : decode cX8_rank 1 = .ok (.istore_n 1, 1) := by decide +kernel
theorem dX8_rank_2 : decode cX8_rank 2 = .ok (.iconst 0, 1) := by decide +kernel
theorem dX8_rank_3 : decode cX8_rank 3 = .ok (.istore_n 2, 1) := by decide +kernel
theorem dX8_rank_4 : decode cX8_rank 4 = .ok (.iload_n 2, 1) := by decide +kernel
theorem dX8_rank_5 : decode cX8_rank 5 = .ok (.aload_n 0, 1) := by decide +kernel
theorem dX8_rank_6 : decode cX8_rank 6 = .ok (.getfield 19, 3) := by decide +kernel
theorem dX8_rank_9 : decode cX8_rank 9 = .ok (.getfield 23, 3) := by decide +kernel
theorem dX8_rank_12 : decode cX8_rank 12 = .ok (.if_icmp .ge 67, 3) := by decide +kernel
theorem dX8_rank_15 : decode cX8_rank 15 = .ok (.iconst 0, 1) := by decide +kernel
theorem dX8_rank_16 : decode cX8_rank 16 = .ok (.istore_n 3, 1) := by decide +kernel
theorem dX8_rank_17 : decode cX8_rank 17 = .ok (.iconst 0, 1) := by decide +kernel
theorem dX8_rank_18 : decode cX8_rank 18 = .ok (.istore 4, 2) := by decide +kernel
theorem dX8_rank_20 : decode cX8_rank 20 = .ok (.iload 4, 2) := by decide +kernel
theorem dX8_rank_22 : decode cX8_rank 22 = .ok (.aload_n 0, 1) := by decide +kernel
theorem dX8_rank_23 : decode cX8_rank 23 = .ok (.getfield 19, 3) := by decide +kernel
theorem dX8_rank_26 : decode cX8_rank 26 = .ok (.getfield 33, 3) := by decide +kernel
theorem dX8_rank_29 : decode cX8_rank 29 = .ok (.if_icmp .ge 32, 3) := by decide +kernel
theorem dX8_rank_32 : decode cX8_rank 32 = .ok (.iload_n 3, 1) := by decide +kernel
theorem dX8_rank_33 : decode cX8_rank 33 = .ok (.aload_n 0, 1) := by decide +kernel
theorem dX8_rank_34 : decode cX8_rank 34 = .ok (.getfield 19, 3) := by decide +kernel
theorem dX8_rank_37 : decode cX8_rank 37 = .ok (.iload_n 2, 1) := by decide +kernel
theorem dX8_rank_38 : decode cX8_rank 38 = .ok (.iload 4, 2) := by decide +kernel
theorem dX8_rank_40 : decode cX8_rank 40 = .ok (.invokevirtual 44, 3) := by decide +kernel
theorem dX8_rank_43 : decode cX8_rank 43 = .ok (.lconst 0, 1) := by decide +kernel
theorem dX8_rank_44 : decode cX8_rank 44 = .ok (.lcmp, 1) := by decide +kernel
theorem dX8_rank_45 : decode cX8_rank 45 = .ok (.ifCond .eq 7, 3) := by decide +kernel
theorem dX8_rank_48 : decode cX8_rank 48 = .ok (.iconst 1, 1) := by decide +kernel
theorem dX8_rank_49 : decode cX8_rank 49 = .ok (.goto 4, 3) := by decide +kernel
theorem dX8_rank_52 : decode cX8_rank 52 = .ok (.iconst 0, 1) := by decide +kernel
theorem dX8_rank_53 : decode cX8_rank 53 = .ok (.ior, 1) := by decide +kernel
theorem dX8_rank_54 : decode cX8_rank 54 = .ok (.istore_n 3, 1) := by decide +kernel
theorem dX8_rank_55 : decode cX8_rank 55 = .ok (.iinc 4 1, 3) := by decide +kernel
theorem dX8_rank_58 : decode cX8_rank 58 = .ok (.goto (-38), 3) := by decide +kernel
theorem dX8_rank_61 : decode cX8_rank 61 = .ok (.iload_n 1, 1) := by decide +kernel
theorem dX8_rank_62 : decode cX8_rank 62 = .ok (.iload_n 3, 1) := by decide +kernel
theorem dX8_rank_63 : decode cX8_rank 63 = .ok (.ifCond .eq 7, 3) := by decide +kernel
theorem dX8_rank_66 : decode cX8_rank 66 = .ok (.iconst 1, 1) := by decide +kernel
theorem dX8_rank_67 : decode cX8_rank 67 = .ok (.goto 4, 3) := by decide +kernel
theorem dX8_rank_70 : decode cX8_rank 70 = .ok (.iconst 0, 1) := by decide +kernel
theorem dX8_rank_71 : decode cX8_rank 71 = .ok (.iadd, 1) := by decide +kernel
theorem dX8_rank_72 : decode cX8_rank 72 = .ok (.istore_n 1, 1) := by decide +kernel
theorem dX8_rank_73 : decode cX8_rank 73 = .ok (.iinc 2 1, 3) := by decide +kernel
theorem dX8_rank_76 : decode cX8_rank 76 = .ok (.goto (-72), 3) := by decide +kernel
theorem dX8_rank_79 : decode cX8_rank 79 = .ok (.iload_n 1, 1) := by decide +kernel
theorem dX8_rank_80 : decode cX8_rank 80 = .ok (.ireturn, 1) := by decide +kernel
theorem dX9_init_0 : decode cX9_init 0 = .ok (.aload_n 0, 1) := by decide +kernel
theorem dX9_init_1 : decode cX9_init 1 = .ok (.invokespecial 1, 3) := by decide +kernel
theorem dX9_init_4 : decode cX9_init 4 = .ok (.aload_n 0, 1) := by decide +kernel
theorem dX9_init_5 : decode cX9_init 5 = .ok (.iconst 1, 1) := by decide +kernel
theorem dX9_init_6 : decode cX9_init 6 = .ok (.putfield 7, 3) := by decide +kernel
theorem dX9_init_9 : decode cX9_init 9 = .ok (.aload_n 0, 1) := by decide +kernel
theorem dX9_init_10 : decode cX9_init 10 = .ok (.iconst 1, 1) := by decide +kernel
theorem dX9_init_11 : decode cX9_init 11 = .ok (.putfield 13, 3) := by decide +kernel
theorem dX9_init_14 : decode cX9_init 14 = .ok (.aload_n 0, 1) := by decide +kernel
theorem dX9_init_15 : decode cX9_init 15 = .ok (.aload_n 1, 1) := by decide +kernel
theorem dX9_init_16 : decode cX9_init 16 = .ok (.invokevirtual 16, 3) := by decide +kernel
theorem dX9_init_19 : decode cX9_init 19 = .ok (.putfield 22, 3) := by decide +kernel
theorem dX9_init_22 : decode cX9_init 22 = .ok (.aload_n 0, 1) := by decide +kernel
theorem dX9_init_23 : decode cX9_init 23 = .ok (.aload_n 1, 1) := by decide +kernel
theorem dX9_init_24 : decode cX9_init 24 = .ok (.getfield 26, 3) := by decide +kernel
theorem dX9_init_27 : decode cX9_init 27 = .ok (.invokestatic 29, 3) := by decide +kernel
theorem dX9_init_30 : decode cX9_init 30 = .ok (.putfield 33, 3) := by decide +kernel
theorem dX9_init_33 : decode cX9_init 33 = .ok (.aload_n 0, 1) := by decide +kernel
theorem dX9_init_34 : decode cX9_init 34 = .ok (.aload_n 1, 1) := by decide +kernel
theorem dX9_init_35 : decode cX9_init 35 = .ok (.getfield 36, 3) := by decide +kernel
theorem dX9_init_38 : decode cX9_init 38 = .ok (.invokestatic 29, 3) := by decide +kernel
theorem dX9_init_41 : decode cX9_init 41 = .ok (.putfield 39, 3) := by decide +kernel
theorem dX9_init_44 : decode cX9_init 44 = .ok (.iconst 1, 1) := by decide +kernel
theorem dX9_init_45 : decode cX9_init 45 = .ok (.istore_n 2, 1) := by decide +kernel
theorem dX9_init_46 : decode cX9_init 46 = .ok (.iconst 0, 1) := by decide +kernel
theorem dX9_init_47 : decode cX9_init 47 = .ok (.istore_n 3, 1) := by decide +kernel
theorem dX9_init_48 : decode cX9_init 48 = .ok (.iload_n 2, 1) := by decide +kernel
theorem dX9_init_49 : decode cX9_init 49 = .ok (.ifCond .eq 55, 3) := by decide +kernel
theorem dX9_init_52 : decode cX9_init 52 = .ok (.iload_n 3, 1) := by decide +kernel
theorem dX9_init_53 : decode cX9_init 53 = .ok (.aload_n 0, 1) := by decide +kernel
theorem dX9_init_54 : decode cX9_init 54 = .ok (.getfield 22, 3) := by decide +kernel
theorem dX9_init_57 : decode cX9_init 57 = .ok (.getfield 26, 3) := by decide +kernel
theorem dX9_init_60 : decode cX9_init 60 = .ok (.if_icmp .ge 44, 3) := by decide +kernel
theorem dX9_init_63 : decode cX9_init 63 = .ok (.iload_n 3, 1) := by decide +kernel
theorem dX9_init_64 : decode cX9_init 64 = .ok (.aload_n 0, 1) := by decide +kernel
theorem dX9_init_65 : decode cX9_init 65 = .ok (.getfield 22, 3) := by decide +kernel
theorem dX9_init_68 : decode cX9_init 68 = .ok (.getfield 36, 3) := by decide +kernel
theorem dX9_init_71 : decode cX9_init 71 = .ok (.if_icmp .ge 33, 3) := by decide +kernel
theorem dX9_init_74 : decode cX9_init 74 = .ok (.aload_n 0, 1) := by decide +kernel
theorem dX9_init_75 : decode cX9_init 75 = .ok (.iload_n 3, 1) := by decide +kernel
theorem dX9_init_76 : decode cX9_init 76 = .ok (.invokevirtual 42, 3) := by decide +kernel
theorem dX9_init_79 : decode cX9_init 79 = .ok (.istore_n 2, 1) := by decide +kernel
theorem dX9_init_80 : decode cX9_init 80 = .ok (.aload_n 0, 1) := by decide +kernel
theorem dX9_init_81 : decode cX9_init 81 = .ok (.dup, 1) := by decide +kernel
theorem dX9_init_82 : decode cX9_init 82 = .ok (.getfield 46, 3) := by decide +kernel
theorem dX9_init_85 : decode cX9_init 85 = .ok (.iload_n 2, 1) := by decide +kernel
theorem dX9_init_86 : decode cX9_init 86 = .ok (.ifCond .eq 7, 3) := by decide +kernel
theorem dX9_init_89 : decode cX9_init 89 = .ok (.iconst 1, 1) := by decide +kernel
theorem dX9_init_90 : decode cX9_init 90 = .ok (.goto 4, 3) := by decide +kernel
theorem dX9_init_93 : decode cX9_init 93 = .ok (.iconst 0, 1) := by decide +kernel
theorem dX9_init_94 : decode cX9_init 94 = .ok (.iadd, 1) := by decide +kernel
theorem dX9_init_95 : decode cX9_init 95 = .ok (.putfield 46, 3) := by decide +kernel
theorem dX9_init_98 : decode cX9_init 98 = .ok (.iinc 3 1, 3) := by decide +kernel
theorem dX9_init_101 : decode cX9_init 101 = .ok (.goto (-53), 3) := by decide +kernel
theorem dX9_init_104 : decode cX9_init 104 = .ok (.return_, 1) := by decide +kernel
theorem dX9_isLess_0 : decode cX9_isLess 0 = .ok (.lload_n 3, 1) := by decide +kernel
theorem dX9_isLess_1 : decode cX9_isLess 1 = .ok (.lconst 0, 1) := by decide +kernel
theorem dX9_isLess_2 : decode cX9_isLess 2 = .ok (.lcmp, 1) := by decide +kernel
theorem dX9_isLess_3 : decode cX9_isLess 3 = .ok (.ifCond .ne 17, 3) := by decide +kernel
theorem dX9_isLess_6 : decode cX9_isLess 6 = .ok (.lload_n 1, 1) := by decide +kernel
theorem dX9_isLess_7 : decode cX9_isLess 7 = .ok (.lconst 0, 1) := by decide +kernel
theorem dX9_isLess_8 : decode cX9_isLess 8 = .ok (.lcmp, 1) := by decide +kernel
theorem dX9_isLess_9 : decode cX9_isLess 9 = .ok (.ifCond .eq 7, 3) := by decide +kernel
theorem dX9_isLess_12 : decode cX9_isLess 12 = .ok (.iconst 1, 1) := by decide +kernel
theorem dX9_isLess_13 : decode cX9_isLess 13 = .ok (.goto 30, 3) := by decide +kernel
theorem dX9_isLess_16 : decode cX9_isLess 16 = .ok (.iconst 0, 1) := by decide +kernel
theorem dX9_isLess_17 : decode cX9_isLess 17 = .ok (.goto 26, 3) := by decide +kernel
theorem dX9_isLess_20 : decode cX9_isLess 20 = .ok (.lload_n 1, 1) := by decide +kernel
theorem dX9_isLess_21 : decode cX9_isLess 21 = .ok (.lconst 0, 1) := by decide +kernel
theorem dX9_isLess_22 : decode cX9_isLess 22 = .ok (.lcmp, 1) := by decide +kernel
theorem dX9_isLess_23 : decode cX9_isLess 23 = .ok (.ifCond .eq 19, 3) := by decide +kernel
theorem dX9_isLess_26 : decode cX9_isLess 26 = .ok (.lload_n 1, 1) := by decide +kernel
theorem dX9_isLess_27 : decode cX9_isLess 27 = .ok (.invokestatic 49, 3) := by decide +kernel
theorem dX9_isLess_30 : decode cX9_isLess 30 = .ok (.lload_n 3, 1) := by decide +kernel
theorem dX9_isLess_31 : decode cX9_isLess 31 = .ok (.invokestatic 49, 3) := by decide +kernel
theorem dX9_isLess_34 : decode cX9_isLess 34 = .ok (.lcmp, 1) := by decide +kernel
theorem dX9_isLess_35 : decode cX9_isLess 35 = .ok (.ifCond .ge 7, 3) := by decide +kernel
theorem dX9_isLess_38 : decode cX9_isLess 38 = .ok (.iconst 1, 1) := by decide +kernel
theorem dX9_isLess_39 : decode cX9_isLess 39 = .ok (.goto 4, 3) := by decide +kernel
theorem dX9_isLess_42 : decode cX9_isLess 42 = .ok (.iconst 0, 1) := by decide +kernel
theorem dX9_isLess_43 : decode cX9_isLess 43 = .ok (.ireturn, 1) := by decide +kernel
theorem dX9_isCleared_0 : decode cX9_isCleared 0 = .ok (.aload_n 0, 1) := by decide +kernel
theorem dX9_isCleared_1 : decode cX9_isCleared 1 = .ok (.getfield 55, 3) := by decide +kernel
theorem dX9_isCleared_4 : decode cX9_isCleared 4 = .ok (.ifCond .ne 140, 3) := by decide +kernel
theorem dX9_isCleared_7 : decode cX9_isCleared 7 = .ok (.iload_n 1, 1) := by decide +kernel
theorem dX9_isCleared_8 : decode cX9_isCleared 8 = .ok (.istore_n 2, 1) := by decide +kernel
theorem dX9_isCleared_9 : decode cX9_isCleared 9 = .ok (.iload_n 1, 1) := by decide +kernel
theorem dX9_isCleared_10 : decode cX9_isCleared 10 = .ok (.istore_n 3, 1) := by decide +kernel
theorem dX9_isCleared_11 : decode cX9_isCleared 11 = .ok (.iload_n 1, 1) := by decide +kernel
theorem dX9_isCleared_12 : decode cX9_isCleared 12 = .ok (.istore 4, 2) := by decide +kernel
theorem dX9_isCleared_14 : decode cX9_isCleared 14 = .ok (.iload 4, 2) := by decide +kernel
theorem dX9_isCleared_16 : decode cX9_isCleared 16 = .ok (.aload_n 0, 1) := by decide +kernel
theorem dX9_isCleared_17 : decode cX9_isCleared 17 = .ok (.getfield 22, 3) := by decide +kernel
theorem dX9_isCleared_20 : decode cX9_isCleared 20 = .ok (.getfield 26, 3) := by decide +kernel
theorem dX9_isCleared_23 : decode cX9_isCleared 23 = .ok (.if_icmp .ge 63, 3) := by decide +kernel
theorem dX9_isCleared_26 : decode cX9_isCleared 26 = .ok (.iload_n 1, 1) := by decide +kernel
theorem dX9_isCleared_27 : decode cX9_isCleared 27 = .ok (.istore 5, 2) := by decide +kernel
theorem dX9_isCleared_29 : decode cX9_isCleared 29 = .ok (.iload 5, 2) := by decide +kernel
theorem dX9_isCleared_31 : decode cX9_isCleared 31 = .ok (.aload_n 0, 1) := by decide +kernel
theorem dX9_isCleared_32 : decode cX9_isCleared 32 = .ok (.getfield 22, 3) := by decide +kernel
theorem dX9_isCleared_35 : decode cX9_isCleared 35 = .ok (.getfield 36, 3) := by decide +kernel
theorem dX9_isCleared_38 : decode cX9_isCleared 38 = .ok (.if_icmp .ge 42, 3) := by decide +kernel
theorem dX9_isCleared_41 : decode cX9_isCleared 41 = .ok (.aload_n 0, 1) := by decide +kernel
theorem dX9_isCleared_42 : decode cX9_isCleared 42 = .ok (.aload_n 0, 1) := by decide +kernel
theorem dX9_isCleared_43 : decode cX9_isCleared 43 = .ok (.getfield 22, 3) := by decide +kernel
theorem dX9_isCleared_46 : decode cX9_isCleared 46 = .ok (.iload 4, 2) := by decide +kernel
theorem dX9_isCleared_48 : decode cX9_isCleared 48 = .ok (.iload 5, 2) := by decide +kernel
theorem dX9_isCleared_50 : decode cX9_isCleared 50 = .ok (.invokevirtual 59, 3) := by decide +kernel
theorem dX9_isCleared_53 : decode cX9_isCleared 53 = .ok (.aload_n 0, 1) := by decide +kernel
theorem dX9_isCleared_54 : decode cX9_isCleared 54 = .ok (.getfield 22, 3) := by decide +kernel
theorem dX9_isCleared_57 : decode cX9_isCleared 57 = .ok (.iload_n 2, 1) := by decide +kernel
theorem dX9_isCleared_58 : decode cX9_isCleared 58 = .ok (.iload_n 3, 1) := by decide +kernel
theorem dX9_isCleared_59 : decode cX9_isCleared 59 = .ok (.invokevirtual 59, 3) := by decide +kernel
theorem dX9_isCleared_62 : decode cX9_isCleared 62 = .ok (.invokevirtual 63, 3) := by decide +kernel
theorem dX9_isCleared_65 : decode cX9_isCleared 65 = .ok (.ifCond .eq 9, 3) := by decide +kernel
theorem dX9_isCleared_68 : decode cX9_isCleared 68 = .ok (.iload 4, 2) := by decide +kernel
theorem dX9_isCleared_70 : decode cX9_isCleared 70 = .ok (.istore_n 2, 1) := by decide +kernel
theorem dX9_isCleared_71 : decode cX9_isCleared 71 = .ok (.iload 5, 2) := by decide +kernel
theorem dX9_isCleared_73 : decode cX9_isCleared 73 = .ok (.istore_n 3, 1) := by decide +kernel
theorem dX9_isCleared_74 : decode cX9_isCleared 74 = .ok (.iinc 5 1, 3) := by decide +kernel
theorem dX9_isCleared_77 : decode cX9_isCleared 77 = .ok (.goto (-48), 3) := by decide +kernel
theorem dX9_isCleared_80 : decode cX9_isCleared 80 = .ok (.iinc 4 1, 3) := by decide +kernel
theorem dX9_isCleared_83 : decode cX9_isCleared 83 = .ok (.goto (-69), 3) := by decide +kernel
theorem dX9_isCleared_86 : decode cX9_isCleared 86 = .ok (.aload_n 0, 1) := by decide +kernel
theorem dX9_isCleared_87 : decode cX9_isCleared 87 = .ok (.getfield 22, 3) := by decide +kernel
theorem dX9_isCleared_90 : decode cX9_isCleared 90 = .ok (.iload_n 2, 1) := by decide +kernel
theorem dX9_isCleared_91 : decode cX9_isCleared 91 = .ok (.iload_n 3, 1) := by decide +kernel
theorem dX9_isCleared_92 : decode cX9_isCleared 92 = .ok (.invokevirtual 59, 3) := by decide +kernel
theorem dX9_isCleared_95 : decode cX9_isCleared 95 = .ok (.lconst 0, 1) := by decide +kernel
theorem dX9_isCleared_96 : decode cX9_isCleared 96 = .ok (.lcmp, 1) := by decide +kernel
theorem dX9_isCleared_97 : decode cX9_isCleared 97 = .ok (.ifCond .ne 5, 3) := by decide +kernel
theorem dX9_isCleared_100 : decode cX9_isCleared 100 = .ok (.iconst 0, 1) := by decide +kernel
theorem dX9_isCleared_101 : decode cX9_isCleared 101 = .ok (.ireturn, 1) := by decide +kernel
theorem dX9_isCleared_102 : decode cX9_isCleared 102 = .ok (.aload_n 0, 1) := by decide +kernel
theorem dX9_isCleared_103 : decode cX9_isCleared 103 = .ok (.iload_n 1, 1) := by decide +kernel
theorem dX9_isCleared_104 : decode cX9_isCleared 104 = .ok (.iload_n 2, 1) := by decide +kernel
theorem dX9_isCleared_105 : decode cX9_isCleared 105 = .ok (.iload_n 3, 1) := by decide +kernel
theorem dX9_isCleared_106 : decode cX9_isCleared 106 = .ok (.invokevirtual 67, 3) := by decide +kernel
theorem dX9_isCleared_109 : decode cX9_isCleared 109 = .ok (.aload_n 0, 1) := by decide +kernel
theorem dX9_isCleared_110 : decode cX9_isCleared 110 = .ok (.iload_n 1, 1) := by decide +kernel
theorem dX9_isCleared_111 : decode cX9_isCleared 111 = .ok (.invokevirtual 71, 3) := by decide +kernel
theorem dX9_isCleared_114 : decode cX9_isCleared 114 = .ok (.aload_n 0, 1) := by decide +kernel
theorem dX9_isCleared_115 : decode cX9_isCleared 115 = .ok (.getfield 55, 3) := by decide +kernel
theorem dX9_isCleared_118 : decode cX9_isCleared 118 = .ok (.ifCond .eq 5, 3) := by decide +kernel
theorem dX9_isCleared_121 : decode cX9_isCleared 121 = .ok (.iconst 0, 1) := by decide +kernel
theorem dX9_isCleared_122 : decode cX9_isCleared 122 = .ok (.ireturn, 1) := by decide +kernel
theorem dX9_isCleared_123 : decode cX9_isCleared 123 = .ok (.aload_n 0, 1) := by decide +kernel
theorem dX9_isCleared_124 : decode cX9_isCleared 124 = .ok (.iload_n 1, 1) := by decide +kernel
theorem dX9_isCleared_125 : decode cX9_isCleared 125 = .ok (.invokevirtual 75, 3) := by decide +kernel
theorem dX9_isCleared_128 : decode cX9_isCleared 128 = .ok (.ifCond .eq 13, 3) := by decide +kernel
theorem dX9_isCleared_131 : decode cX9_isCleared 131 = .ok (.aload_n 0, 1) := by decide +kernel
theorem dX9_isCleared_132 : decode cX9_isCleared 132 = .ok (.iload_n 1, 1) := by decide +kernel
theorem dX9_isCleared_133 : decode cX9_isCleared 133 = .ok (.invokevirtual 78, 3) := by decide +kernel
theorem dX9_isCleared_136 : decode cX9_isCleared 136 = .ok (.ifCond .eq 5, 3) := by decide +kernel
theorem dX9_isCleared_139 : decode cX9_isCleared 139 = .ok (.iconst 1, 1) := by decide +kernel
theorem dX9_isCleared_140 : decode cX9_isCleared 140 = .ok (.ireturn, 1) := by decide +kernel
theorem dX9_isCleared_141 : decode cX9_isCleared 141 = .ok (.goto (-141), 3) := by decide +kernel
theorem dX9_isCleared_144 : decode cX9_isCleared 144 = .ok (.iconst 0, 1) := by decide +kernel
theorem dX9_isCleared_145 : decode cX9_isCleared 145 = .ok (.ireturn, 1) := by decide +kernel
theorem dX9_bring_0 : decode cX9_bring 0 = .ok (.iload_n 2, 1) := by decide +kernel
theorem dX9_bring_1 : decode cX9_bring 1 = .ok (.iload_n 1, 1) := by decide +kernel
theorem dX9_bring_2 : decode cX9_bring 2 = .ok (.if_icmp .eq 30, 3) := by decide +kernel
theorem dX9_bring_5 : decode cX9_bring 5 = .ok (.aload_n 0, 1) := by decide +kernel
theorem dX9_bring_6 : decode cX9_bring 6 = .ok (.getfield 22, 3) := by decide +kernel
theorem dX9_bring_9 : decode cX9_bring 9 = .ok (.iload_n 2, 1) := by decide +kernel
theorem dX9_bring_10 : decode cX9_bring 10 = .ok (.iload_n 1, 1) := by decide +kernel
theorem dX9_bring_11 : decode cX9_bring 11 = .ok (.invokevirtual 81, 3) := by decide +kernel
theorem dX9_bring_14 : decode cX9_bring 14 = .ok (.aload_n 0, 1) := by decide +kernel
theorem dX9_bring_15 : decode cX9_bring 15 = .ok (.getfield 33, 3) := by decide +kernel
theorem dX9_bring_18 : decode cX9_bring 18 = .ok (.iload_n 2, 1) := by decide +kernel
theorem dX9_bring_19 : decode cX9_bring 19 = .ok (.iload_n 1, 1) := by decide +kernel
theorem dX9_bring_20 : decode cX9_bring 20 = .ok (.invokevirtual 81, 3) := by decide +kernel
theorem dX9_bring_23 : decode cX9_bring 23 = .ok (.aload_n 0, 1) := by decide +kernel
theorem dX9_bring_24 : decode cX9_bring 24 = .ok (.aload_n 0, 1) := by decide +kernel
theorem dX9_bring_25 : decode cX9_bring 25 = .ok (.getfield 7, 3) := by decide +kernel
theorem dX9_bring_28 : decode cX9_bring 28 = .ok (.ineg, 1) := by decide +kernel
theorem dX9_bring_29 : decode cX9_bring 29 = .ok (.putfield 7, 3) := by decide +kernel
theorem dX9_bring_32 : decode cX9_bring 32 = .ok (.iload_n 3, 1) := by decide +kernel
theorem dX9_bring_33 : decode cX9_bring 33 = .ok (.iload_n 1, 1) := by decide +kernel
theorem dX9_bring_34 : decode cX9_bring 34 = .ok (.if_icmp .eq 30, 3) := by decide +kernel
theorem dX9_bring_37 : decode cX9_bring 37 = .ok (.aload_n 0, 1) := by decide +kernel
theorem dX9_bring_38 : decode cX9_bring 38 = .ok (.getfield 22, 3) := by decide +kernel
theorem dX9_bring_41 : decode cX9_bring 41 = .ok (.iload_n 3, 1) := by decide +kernel
theorem dX9_bring_42 : decode cX9_bring 42 = .ok (.iload_n 1, 1) := by decide +kernel
theorem dX9_bring_43 : decode cX9_bring 43 = .ok (.invokevirtual 85, 3) := by decide +kernel
theorem dX9_bring_46 : decode cX9_bring 46 = .ok (.aload_n 0, 1) := by decide +kernel
theorem dX9_bring_47 : decode cX9_bring 47 = .ok (.getfield 39, 3) := by decide +kernel
theorem dX9_bring_50 : decode cX9_bring 50 = .ok (.iload_n 3, 1) := by decide +kernel
theorem dX9_bring_51 : decode cX9_bring 51 = .ok (.iload_n 1, 1) := by decide +kernel
theorem dX9_bring_52 : decode cX9_bring 52 = .ok (.invokevirtual 85, 3) := by decide +kernel
theorem dX9_bring_55 : decode cX9_bring 55 = .ok (.aload_n 0, 1) := by decide +kernel
theorem dX9_bring_56 : decode cX9_bring 56 = .ok (.aload_n 0, 1) := by decide +kernel
theorem dX9_bring_57 : decode cX9_bring 57 = .ok (.getfield 13, 3) := by decide +kernel
theorem dX9_bring_60 : decode cX9_bring 60 = .ok (.ineg, 1) := by decide +kernel
theorem dX9_bring_61 : decode cX9_bring 61 = .ok (.putfield 13, 3) := by decide +kernel
theorem dX9_bring_64 : decode cX9_bring 64 = .ok (.aload_n 0, 1) := by decide +kernel
theorem dX9_bring_65 : decode cX9_bring 65 = .ok (.getfield 22, 3) := by decide +kernel
theorem dX9_bring_68 : decode cX9_bring 68 = .ok (.iload_n 1, 1) := by decide +kernel
theorem dX9_bring_69 : decode cX9_bring 69 = .ok (.iload_n 1, 1) := by decide +kernel
theorem dX9_bring_70 : decode cX9_bring 70 = .ok (.invokevirtual 59, 3) := by decide +kernel
theorem dX9_bring_73 : decode cX9_bring 73 = .ok (.lconst 0, 1) := by decide +kernel
theorem dX9_bring_74 : decode cX9_bring 74 = .ok (.lcmp, 1) := by decide +kernel
theorem dX9_bring_75 : decode cX9_bring 75 = .ok (.ifCond .ge 28, 3) := by decide +kernel
theorem dX9_bring_78 : decode cX9_bring 78 = .ok (.aload_n 0, 1) := by decide +kernel
theorem dX9_bring_79 : decode cX9_bring 79 = .ok (.getfield 22, 3) := by decide +kernel
theorem dX9_bring_82 : decode cX9_bring 82 = .ok (.iload_n 1, 1) := by decide +kernel
theorem dX9_bring_83 : decode cX9_bring 83 = .ok (.invokevirtual 88, 3) := by decide +kernel
theorem dX9_bring_86 : decode cX9_bring 86 = .ok (.aload_n 0, 1) := by decide +kernel
theorem dX9_bring_87 : decode cX9_bring 87 = .ok (.getfield 33, 3) := by decide +kernel
theorem dX9_bring_90 : decode cX9_bring 90 = .ok (.iload_n 1, 1) := by decide +kernel
theorem dX9_bring_91 : decode cX9_bring 91 = .ok (.invokevirtual 88, 3) := by decide +kernel
theorem dX9_bring_94 : decode cX9_bring 94 = .ok (.aload_n 0, 1) := by decide +kernel
theorem dX9_bring_95 : decode cX9_bring 95 = .ok (.aload_n 0, 1) := by decide +kernel
theorem dX9_bring_96 : decode cX9_bring 96 = .ok (.getfield 7, 3) := by decide +kernel
theorem dX9_bring_99 : decode cX9_bring 99 = .ok (.ineg, 1) := by decide +kernel
theorem dX9_bring_100 : decode cX9_bring 100 = .ok (.putfield 7, 3) := by decide +kernel
theorem dX9_bring_103 : decode cX9_bring 103 = .ok (.return_, 1) := by decide +kernel
theorem dX9_look_0 : decode cX9_look 0 = .ok (.aload_n 0, 1) := by decide +kernel
theorem dX9_look_1 : decode cX9_look 1 = .ok (.dup, 1) := by decide +kernel
theorem dX9_look_2 : decode cX9_look 2 = .ok (.getfield 55, 3) := by decide +kernel
theorem dX9_look_5 : decode cX9_look 5 = .ok (.aload_n 0, 1) := by decide +kernel
theorem dX9_look_6 : decode cX9_look 6 = .ok (.getfield 22, 3) := by decide +kernel
theorem dX9_look_9 : decode cX9_look 9 = .ok (.invokevirtual 91, 3) := by decide +kernel
theorem dX9_look_12 : decode cX9_look 12 = .ok (.ifCond .ne 23, 3) := by decide +kernel
theorem dX9_look_15 : decode cX9_look 15 = .ok (.aload_n 0, 1) := by decide +kernel
theorem dX9_look_16 : decode cX9_look 16 = .ok (.getfield 33, 3) := by decide +kernel
theorem dX9_look_19 : decode cX9_look 19 = .ok (.invokevirtual 91, 3) := by decide +kernel
theorem dX9_look_22 : decode cX9_look 22 = .ok (.ifCond .ne 13, 3) := by decide +kernel
theorem dX9_look_25 : decode cX9_look 25 = .ok (.aload_n 0, 1) := by decide +kernel
theorem dX9_look_26 : decode cX9_look 26 = .ok (.getfield 39, 3) := by decide +kernel
theorem dX9_look_29 : decode cX9_look 29 = .ok (.invokevirtual 91, 3) := by decide +kernel
theorem dX9_look_32 : decode cX9_look 32 = .ok (.ifCond .eq 7, 3) := by decide +kernel
theorem dX9_look_35 : decode cX9_look 35 = .ok (.iconst 1, 1) := by decide +kernel
theorem dX9_look_36 : decode cX9_look 36 = .ok (.goto 4, 3) := by decide +kernel
theorem dX9_look_39 : decode cX9_look 39 = .ok (.iconst 0, 1) := by decide +kernel
theorem dX9_look_40 : decode cX9_look 40 = .ok (.ior, 1) := by decide +kernel
theorem dX9_look_41 : decode cX9_look 41 = .ok (.putfield 55, 3) := by decide +kernel
theorem dX9_look_44 : decode cX9_look 44 = .ok (.return_, 1) := by decide +kernel
theorem dX9_takeOff_0 : decode cX9_takeOff 0 = .ok (.iload_n 1, 1) := by decide +kernel
theorem dX9_takeOff_1 : decode cX9_takeOff 1 = .ok (.iconst 1, 1) := by decide +kernel
theorem dX9_takeOff_2 : decode cX9_takeOff 2 = .ok (.iadd, 1) := by decide +kernel
theorem dX9_takeOff_3 : decode cX9_takeOff 3 = .ok (.istore_n 2, 1) := by decide +kernel
theorem dX9_takeOff_4 : decode cX9_takeOff 4 = .ok (.iload_n 2, 1) := by decide +kernel
theorem dX9_takeOff_5 : decode cX9_takeOff 5 = .ok (.aload_n 0, 1) := by decide +kernel
theorem dX9_takeOff_6 : decode cX9_takeOff 6 = .ok (.getfield 22, 3) := by decide +kernel
theorem dX9_takeOff_9 : decode cX9_takeOff 9 = .ok (.getfield 26, 3) := by decide +kernel
theorem dX9_takeOff_12 : decode cX9_takeOff 12 = .ok (.if_icmp .ge 64, 3) := by decide +kernel
theorem dX9_takeOff_15 : decode cX9_takeOff 15 = .ok (.aload_n 0, 1) := by decide +kernel
theorem dX9_takeOff_16 : decode cX9_takeOff 16 = .ok (.getfield 55, 3) := by decide +kernel
theorem dX9_takeOff_19 : decode cX9_takeOff 19 = .ok (.ifCond .ne 57, 3) := by decide +kernel
theorem dX9_takeOff_22 : decode cX9_takeOff 22 = .ok (.aload_n 0, 1) := by decide +kernel
theorem dX9_takeOff_23 : decode cX9_takeOff 23 = .ok (.getfield 22, 3) := by decide +kernel
theorem dX9_takeOff_26 : decode cX9_takeOff 26 = .ok (.iload_n 2, 1) := by decide +kernel
theorem dX9_takeOff_27 : decode cX9_takeOff 27 = .ok (.iload_n 1, 1) := by decide +kernel
theorem dX9_takeOff_28 : decode cX9_takeOff 28 = .ok (.invokevirtual 59, 3) := by decide +kernel
theorem dX9_takeOff_31 : decode cX9_takeOff 31 = .ok (.aload_n 0, 1) := by decide +kernel
theorem dX9_takeOff_32 : decode cX9_takeOff 32 = .ok (.getfield 22, 3) := by decide +kernel
theorem dX9_takeOff_35 : decode cX9_takeOff 35 = .ok (.iload_n 1, 1) := by decide +kernel
theorem dX9_takeOff_36 : decode cX9_takeOff 36 = .ok (.iload_n 1, 1) := by decide +kernel
theorem dX9_takeOff_37 : decode cX9_takeOff 37 = .ok (.invokevirtual 59, 3) := by decide +kernel
theorem dX9_takeOff_40 : decode cX9_takeOff 40 = .ok (.invokestatic 94, 3) := by decide +kernel
theorem dX9_takeOff_43 : decode cX9_takeOff 43 = .ok (.lstore_n 3, 1) := by decide +kernel
theorem dX9_takeOff_44 : decode cX9_takeOff 44 = .ok (.aload_n 0, 1) := by decide +kernel
theorem dX9_takeOff_45 : decode cX9_takeOff 45 = .ok (.getfield 22, 3) := by decide +kernel
theorem dX9_takeOff_48 : decode cX9_takeOff 48 = .ok (.iload_n 2, 1) := by decide +kernel
theorem dX9_takeOff_49 : decode cX9_takeOff 49 = .ok (.iload_n 1, 1) := by decide +kernel
theorem dX9_takeOff_50 : decode cX9_takeOff 50 = .ok (.lload_n 3, 1) := by decide +kernel
theorem dX9_takeOff_51 : decode cX9_takeOff 51 = .ok (.lneg, 1) := by decide +kernel
theorem dX9_takeOff_52 : decode cX9_takeOff 52 = .ok (.invokevirtual 98, 3) := by decide +kernel
theorem dX9_takeOff_55 : decode cX9_takeOff 55 = .ok (.aload_n 0, 1) := by decide +kernel
theorem dX9_takeOff_56 : decode cX9_takeOff 56 = .ok (.getfield 33, 3) := by decide +kernel
theorem dX9_takeOff_59 : decode cX9_takeOff 59 = .ok (.iload_n 2, 1) := by decide +kernel
theorem dX9_takeOff_60 : decode cX9_takeOff 60 = .ok (.iload_n 1, 1) := by decide +kernel
theorem dX9_takeOff_61 : decode cX9_takeOff 61 = .ok (.lload_n 3, 1) := by decide +kernel
theorem dX9_takeOff_62 : decode cX9_takeOff 62 = .ok (.lneg, 1) := by decide +kernel
theorem dX9_takeOff_63 : decode cX9_takeOff 63 = .ok (.invokevirtual 98, 3) := by decide +kernel
theorem dX9_takeOff_66 : decode cX9_takeOff 66 = .ok (.aload_n 0, 1) := by decide +kernel
theorem dX9_takeOff_67 : decode cX9_takeOff 67 = .ok (.invokevirtual 102, 3) := by decide +kernel
theorem dX9_takeOff_70 : decode cX9_takeOff 70 = .ok (.iinc 2 1, 3) := by decide +kernel
theorem dX9_takeOff_73 : decode cX9_takeOff 73 = .ok (.goto (-69), 3) := by decide +kernel
theorem dX9_takeOff_76 : decode cX9_takeOff 76 = .ok (.iload_n 1, 1) := by decide +kernel
theorem dX9_takeOff_77 : decode cX9_takeOff 77 = .ok (.iconst 1, 1) := by decide +kernel
theorem dX9_takeOff_78 : decode cX9_takeOff 78 = .ok (.iadd, 1) := by decide +kernel
theorem dX9_takeOff_79 : decode cX9_takeOff 79 = .ok (.istore_n 2, 1) := by decide +kernel
theorem dX9_takeOff_80 : decode cX9_takeOff 80 = .ok (.iload_n 2, 1) := by decide +kernel
theorem dX9_takeOff_81 : decode cX9_takeOff 81 = .ok (.aload_n 0, 1) := by decide +kernel
theorem dX9_takeOff_82 : decode cX9_takeOff 82 = .ok (.getfield 22, 3) := by decide +kernel
theorem dX9_takeOff_85 : decode cX9_takeOff 85 = .ok (.getfield 36, 3) := by decide +kernel
theorem dX9_takeOff_88 : decode cX9_takeOff 88 = .ok (.if_icmp .ge 64, 3) := by decide +kernel
theorem dX9_takeOff_91 : decode cX9_takeOff 91 = .ok (.aload_n 0, 1) := by decide +kernel
theorem dX9_takeOff_92 : decode cX9_takeOff 92 = .ok (.getfield 55, 3) := by decide +kernel
theorem dX9_takeOff_95 : decode cX9_takeOff 95 = .ok (.ifCond .ne 57, 3) := by decide +kernel
theorem dX9_takeOff_98 : decode cX9_takeOff 98 = .ok (.aload_n 0, 1) := by decide +kernel
theorem dX9_takeOff_99 : decode cX9_takeOff 99 = .ok (.getfield 22, 3) := by decide +kernel
theorem dX9_takeOff_102 : decode cX9_takeOff 102 = .ok (.iload_n 1, 1) := by decide +kernel
theorem dX9_takeOff_103 : decode cX9_takeOff 103 = .ok (.iload_n 2, 1) := by decide +kernel
theorem dX9_takeOff_104 : decode cX9_takeOff 104 = .ok (.invokevirtual 59, 3) := by decide +kernel
theorem dX9_takeOff_107 : decode cX9_takeOff 107 = .ok (.aload_n 0, 1) := by decide +kernel
theorem dX9_takeOff_108 : decode cX9_takeOff 108 = .ok (.getfield 22, 3) := by decide +kernel
theorem dX9_takeOff_111 : decode cX9_takeOff 111 = .ok (.iload_n 1, 1) := by decide +kernel
theorem dX9_takeOff_112 : decode cX9_takeOff 112 = .ok (.iload_n 1, 1) := by decide +kernel
theorem dX9_takeOff_113 : decode cX9_takeOff 113 = .ok (.invokevirtual 59, 3) := by decide +kernel
theorem dX9_takeOff_116 : decode cX9_takeOff 116 = .ok (.invokestatic 94, 3) := by decide +kernel
theorem dX9_takeOff_119 : decode cX9_takeOff 119 = .ok (.lstore_n 3, 1) := by decide +kernel
theorem dX9_takeOff_120 : decode cX9_takeOff 120 = .ok (.aload_n 0, 1) := by decide +kernel
theorem dX9_takeOff_121 : decode cX9_takeOff 121 = .ok (.getfield 22, 3) := by decide +kernel
theorem dX9_takeOff_124 : decode cX9_takeOff 124 = .ok (.iload_n 2, 1) := by decide +kernel
theorem dX9_takeOff_125 : decode cX9_takeOff 125 = .ok (.iload_n 1, 1) := by decide +kernel
theorem dX9_takeOff_126 : decode cX9_takeOff 126 = .ok (.lload_n 3, 1) := by decide +kernel
theorem dX9_takeOff_127 : decode cX9_takeOff 127 = .ok (.lneg, 1) := by decide +kernel
theorem dX9_takeOff_128 : decode cX9_takeOff 128 = .ok (.invokevirtual 105, 3) := by decide +kernel
theorem dX9_takeOff_131 : decode cX9_takeOff 131 = .ok (.aload_n 0, 1) := by decide +kernel
theorem dX9_takeOff_132 : decode cX9_takeOff 132 = .ok (.getfield 39, 3) := by decide +kernel
theorem dX9_takeOff_135 : decode cX9_takeOff 135 = .ok (.iload_n 2, 1) := by decide +kernel
theorem dX9_takeOff_136 : decode cX9_takeOff 136 = .ok (.iload_n 1, 1) := by decide +kernel
theorem dX9_takeOff_137 : decode cX9_takeOff 137 = .ok (.lload_n 3, 1) := by decide +kernel
theorem dX9_takeOff_138 : decode cX9_takeOff 138 = .ok (.lneg, 1) := by decide +kernel
theorem dX9_takeOff_139 : decode cX9_takeOff 139 = .ok (.invokevirtual 105, 3) := by decide +kernel
theorem dX9_takeOff_142 : decode cX9_takeOff 142 = .ok (.aload_n 0, 1) := by decide +kernel
theorem dX9_takeOff_143 : decode cX9_takeOff 143 = .ok (.invokevirtual 102, 3) := by decide +kernel
theorem dX9_takeOff_146 : decode cX9_takeOff 146 = .ok (.iinc 2 1, 3) := by decide +kernel
theorem dX9_takeOff_149 : decode cX9_takeOff 149 = .ok (.goto (-69), 3) := by decide +kernel
theorem dX9_takeOff_152 : decode cX9_takeOff 152 = .ok (.return_, 1) := by decide +kernel
theorem dX9_isAlone_0 : decode cX9_isAlone 0 = .ok (.iload_n 1, 1) := by decide +kernel
theorem dX9_isAlone_1 : decode cX9_isAlone 1 = .ok (.iconst 1, 1) := by decide +kernel
theorem dX9_isAlone_2 : decode cX9_isAlone 2 = .ok (.iadd, 1) := by decide +kernel
theorem dX9_isAlone_3 : decode cX9_isAlone 3 = .ok (.istore_n 2, 1) := by decide +kernel
theorem dX9_isAlone_4 : decode cX9_isAlone 4 = .ok (.iload_n 2, 1) := by decide +kernel
theorem dX9_isAlone_5 : decode cX9_isAlone 5 = .ok (.aload_n 0, 1) := by decide +kernel
theorem dX9_isAlone_6 : decode cX9_isAlone 6 = .ok (.getfield 22, 3) := by decide +kernel
theorem dX9_isAlone_9 : decode cX9_isAlone 9 = .ok (.getfield 26, 3) := by decide +kernel
theorem dX9_isAlone_12 : decode cX9_isAlone 12 = .ok (.if_icmp .ge 25, 3) := by decide +kernel
theorem dX9_isAlone_15 : decode cX9_isAlone 15 = .ok (.aload_n 0, 1) := by decide +kernel
theorem dX9_isAlone_16 : decode cX9_isAlone 16 = .ok (.getfield 22, 3) := by decide +kernel
theorem dX9_isAlone_19 : decode cX9_isAlone 19 = .ok (.iload_n 2, 1) := by decide +kernel
theorem dX9_isAlone_20 : decode cX9_isAlone 20 = .ok (.iload_n 1, 1) := by decide +kernel
theorem dX9_isAlone_21 : decode cX9_isAlone 21 = .ok (.invokevirtual 59, 3) := by decide +kernel
theorem dX9_isAlone_24 : decode cX9_isAlone 24 = .ok (.lconst 0, 1) := by decide +kernel
theorem dX9_isAlone_25 : decode cX9_isAlone 25 = .ok (.lcmp, 1) := by decide +kernel
theorem dX9_isAlone_26 : decode cX9_isAlone 26 = .ok (.ifCond .eq 5, 3) := by decide +kernel
theorem dX9_isAlone_29 : decode cX9_isAlone 29 = .ok (.iconst 0, 1) := by decide +kernel
theorem dX9_isAlone_30 : decode cX9_isAlone 30 = .ok (.ireturn, 1) := by decide +kernel
theorem dX9_isAlone_31 : decode cX9_isAlone 31 = .ok (.iinc 2 1, 3) := by decide +kernel
theorem dX9_isAlone_34 : decode cX9_isAlone 34 = .ok (.goto (-30), 3) := by decide +kernel
theorem dX9_isAlone_37 : decode cX9_isAlone 37 = .ok (.iload_n 1, 1) := by decide +kernel
theorem dX9_isAlone_38 : decode cX9_isAlone 38 = .ok (.iconst 1, 1) := by decide +kernel
theorem dX9_isAlone_39 : decode cX9_isAlone 39 = .ok (.iadd, 1) := by decide +kernel
theorem dX9_isAlone_40 : decode cX9_isAlone 40 = .ok (.istore_n 2, 1) := by decide +kernel
theorem dX9_isAlone_41 : decode cX9_isAlone 41 = .ok (.iload_n 2, 1) := by decide +kernel
theorem dX9_isAlone_42 : decode cX9_isAlone 42 = .ok (.aload_n 0, 1) := by decide +kernel
theorem dX9_isAlone_43 : decode cX9_isAlone 43 = .ok (.getfield 22, 3) := by decide +kernel
theorem dX9_isAlone_46 : decode cX9_isAlone 46 = .ok (.getfield 36, 3) := by decide +kernel
theorem dX9_isAlone_49 : decode cX9_isAlone 49 = .ok (.if_icmp .ge 25, 3) := by decide +kernel
theorem dX9_isAlone_52 : decode cX9_isAlone 52 = .ok (.aload_n 0, 1) := by decide +kernel
theorem dX9_isAlone_53 : decode cX9_isAlone 53 = .ok (.getfield 22, 3) := by decide +kernel
theorem dX9_isAlone_56 : decode cX9_isAlone 56 = .ok (.iload_n 1, 1) := by decide +kernel
theorem dX9_isAlone_57 : decode cX9_isAlone 57 = .ok (.iload_n 2, 1) := by decide +kernel
theorem dX9_isAlone_58 : decode cX9_isAlone 58 = .ok (.invokevirtual 59, 3) := by decide +kernel
theorem dX9_isAlone_61 : decode cX9_isAlone 61 = .ok (.lconst 0, 1) := by decide +kernel
theorem dX9_isAlone_62 : decode cX9_isAlone 62 = .ok (.lcmp, 1) := by decide +kernel
theorem dX9_isAlone_63 : decode cX9_isAlone 63 = .ok (.ifCond .eq 5, 3) := by decide +kernel
theorem dX9_isAlone_66 : decode cX9_isAlone 66 = .ok (.iconst 0, 1) := by decide +kernel
theorem dX9_isAlone_67 : decode cX9_isAlone 67 = .ok (.ireturn, 1) := by decide +kernel
theorem dX9_isAlone_68 : decode cX9_isAlone 68 = .ok (.iinc 2 1, 3) := by decide +kernel
theorem dX9_isAlone_71 : decode cX9_isAlone 71 = .ok (.goto (-30), 3) := by decide +kernel
theorem dX9_isAlone_74 : decode cX9_isAlone 74 = .ok (.iconst 1, 1) := by decide +kernel
theorem dX9_isAlone_75 : decode cX9_isAlone 75 = .ok (.ireturn, 1) := by decide +kernel
theorem dX9_isDividing_0 : decode cX9_isDividing 0 = .ok (.iload_n 1, 1) := by decide +kernel
theorem dX9_isDividing_1 : decode cX9_isDividing 1 = .ok (.iconst 1, 1) := by decide +kernel
theorem dX9_isDividing_2 : decode cX9_isDividing 2 = .ok (.iadd, 1) := by decide +kernel
theorem dX9_isDividing_3 : decode cX9_isDividing 3 = .ok (.istore_n 2, 1) := by decide +kernel
theorem dX9_isDividing_4 : decode cX9_isDividing 4 = .ok (.iload_n 2, 1) := by decide +kernel
theorem dX9_isDividing_5 : decode cX9_isDividing 5 = .ok (.aload_n 0, 1) := by decide +kernel
theorem dX9_isDividing_6 : decode cX9_isDividing 6 = .ok (.getfield 22, 3) := by decide +kernel
theorem dX9_isDividing_9 : decode cX9_isDividing 9 = .ok (.getfield 26, 3) := by decide +kernel
theorem dX9_isDividing_12 : decode cX9_isDividing 12 = .ok (.if_icmp .ge 80, 3) := by decide +kernel
theorem dX9_isDividing_15 : decode cX9_isDividing 15 = .ok (.iload_n 1, 1) := by decide +kernel
theorem dX9_isDividing_16 : decode cX9_isDividing 16 = .ok (.iconst 1, 1) := by decide +kernel
theorem dX9_isDividing_17 : decode cX9_isDividing 17 = .ok (.iadd, 1) := by decide +kernel
theorem dX9_isDividing_18 : decode cX9_isDividing 18 = .ok (.istore_n 3, 1) := by decide +kernel
theorem dX9_isDividing_19 : decode cX9_isDividing 19 = .ok (.iload_n 3, 1) := by decide +kernel
theorem dX9_isDividing_20 : decode cX9_isDividing 20 = .ok (.aload_n 0, 1) := by decide +kernel
theorem dX9_isDividing_21 : decode cX9_isDividing 21 = .ok (.getfield 22, 3) := by decide +kernel
theorem dX9_isDividing_24 : decode cX9_isDividing 24 = .ok (.getfield 36, 3) := by decide +kernel
theorem dX9_isDividing_27 : decode cX9_isDividing 27 = .ok (.if_icmp .ge 59, 3) := by decide +kernel
theorem dX9_isDividing_30 : decode cX9_isDividing 30 = .ok (.aload_n 0, 1) := by decide +kernel
theorem dX9_isDividing_31 : decode cX9_isDividing 31 = .ok (.getfield 22, 3) := by decide +kernel
theorem dX9_isDividing_34 : decode cX9_isDividing 34 = .ok (.iload_n 2, 1) := by decide +kernel
theorem dX9_isDividing_35 : decode cX9_isDividing 35 = .ok (.iload_n 3, 1) := by decide +kernel
theorem dX9_isDividing_36 : decode cX9_isDividing 36 = .ok (.invokevirtual 59, 3) := by decide +kernel
theorem dX9_isDividing_39 : decode cX9_isDividing 39 = .ok (.aload_n 0, 1) := by decide +kernel
theorem dX9_isDividing_40 : decode cX9_isDividing 40 = .ok (.getfield 22, 3) := by decide +kernel
theorem dX9_isDividing_43 : decode cX9_isDividing 43 = .ok (.iload_n 1, 1) := by decide +kernel
theorem dX9_isDividing_44 : decode cX9_isDividing 44 = .ok (.iload_n 1, 1) := by decide +kernel
theorem dX9_isDividing_45 : decode cX9_isDividing 45 = .ok (.invokevirtual 59, 3) := by decide +kernel
theorem dX9_isDividing_48 : decode cX9_isDividing 48 = .ok (.lrem, 1) := by decide +kernel
theorem dX9_isDividing_49 : decode cX9_isDividing 49 = .ok (.lconst 0, 1) := by decide +kernel
theorem dX9_isDividing_50 : decode cX9_isDividing 50 = .ok (.lcmp, 1) := by decide +kernel
theorem dX9_isDividing_51 : decode cX9_isDividing 51 = .ok (.ifCond .eq 29, 3) := by decide +kernel
theorem dX9_isDividing_54 : decode cX9_isDividing 54 = .ok (.aload_n 0, 1) := by decide +kernel
theorem dX9_isDividing_55 : decode cX9_isDividing 55 = .ok (.getfield 22, 3) := by decide +kernel
theorem dX9_isDividing_58 : decode cX9_isDividing 58 = .ok (.iload_n 1, 1) := by decide +kernel
theorem dX9_isDividing_59 : decode cX9_isDividing 59 = .ok (.iload_n 2, 1) := by decide +kernel
theorem dX9_isDividing_60 : decode cX9_isDividing 60 = .ok (.lconst 1, 1) := by decide +kernel
theorem dX9_isDividing_61 : decode cX9_isDividing 61 = .ok (.invokevirtual 98, 3) := by decide +kernel
theorem dX9_isDividing_64 : decode cX9_isDividing 64 = .ok (.aload_n 0, 1) := by decide +kernel
theorem dX9_isDividing_65 : decode cX9_isDividing 65 = .ok (.getfield 33, 3) := by decide +kernel
theorem dX9_isDividing_68 : decode cX9_isDividing 68 = .ok (.iload_n 1, 1) := by decide +kernel
theorem dX9_isDividing_69 : decode cX9_isDividing 69 = .ok (.iload_n 2, 1) := by decide +kernel
theorem dX9_isDividing_70 : decode cX9_isDividing 70 = .ok (.lconst 1, 1) := by decide +kernel
theorem dX9_isDividing_71 : decode cX9_isDividing 71 = .ok (.invokevirtual 98, 3) := by decide +kernel
theorem dX9_isDividing_74 : decode cX9_isDividing 74 = .ok (.aload_n 0, 1) := by decide +kernel
theorem dX9_isDividing_75 : decode cX9_isDividing 75 = .ok (.invokevirtual 102, 3) := by decide +kernel
theorem dX9_isDividing_78 : decode cX9_isDividing 78 = .ok (.iconst 0, 1) := by decide +kernel
theorem dX9_isDividing_79 : decode cX9_isDividing 79 = .ok (.ireturn, 1) := by decide +kernel
theorem dX9_isDividing_80 : decode cX9_isDividing 80 = .ok (.iinc 3 1, 3) := by decide +kernel
theorem dX9_isDividing_83 : decode cX9_isDividing 83 = .ok (.goto (-64), 3) := by decide +kernel
theorem dX9_isDividing_86 : decode cX9_isDividing 86 = .ok (.iinc 2 1, 3) := by decide +kernel
theorem dX9_isDividing_89 : decode cX9_isDividing 89 = .ok (.goto (-85), 3) := by decide +kernel
theorem dX9_isDividing_92 : decode cX9_isDividing 92 = .ok (.iconst 1, 1) := by decide +kernel
theorem dX9_isDividing_93 : decode cX9_isDividing 93 = .ok (.ireturn, 1) := by decide +kernel
theorem dX10_gcd_0 : decode cX10_gcd 0 = .ok (.lload_n 2, 1) := by decide +kernel
theorem dX10_gcd_1 : decode cX10_gcd 1 = .ok (.lconst 0, 1) := by decide +kernel
theorem dX10_gcd_2 : decode cX10_gcd 2 = .ok (.lcmp, 1) := by decide +kernel
theorem dX10_gcd_3 : decode cX10_gcd 3 = .ok (.ifCond .ne 10, 3) := by decide +kernel
theorem dX10_gcd_6 : decode cX10_gcd 6 = .ok (.lload_n 0, 1) := by decide +kernel
theorem dX10_gcd_7 : decode cX10_gcd 7 = .ok (.invokestatic 1, 3) := by decide +kernel
theorem dX10_gcd_10 : decode cX10_gcd 10 = .ok (.goto 10, 3) := by decide +kernel
theorem dX10_gcd_13 : decode cX10_gcd 13 = .ok (.lload_n 2, 1) := by decide +kernel
theorem dX10_gcd_14 : decode cX10_gcd 14 = .ok (.lload_n 0, 1) := by decide +kernel
theorem dX10_gcd_15 : decode cX10_gcd 15 = .ok (.lload_n 2, 1) := by decide +kernel
theorem dX10_gcd_16 : decode cX10_gcd 16 = .ok (.lrem, 1) := by decide +kernel
theorem dX10_gcd_17 : decode cX10_gcd 17 = .ok (.invokestatic 7, 3) := by decide +kernel
theorem dX10_gcd_20 : decode cX10_gcd 20 = .ok (.lreturn, 1) := by decide +kernel
theorem dX10_init_0 : decode cX10_init 0 = .ok (.aload_n 0, 1) := by decide +kernel
theorem dX10_init_1 : decode cX10_init 1 = .ok (.invokespecial 13, 3) := by decide +kernel
theorem dX10_init_4 : decode cX10_init 4 = .ok (.aload_n 0, 1) := by decide +kernel
theorem dX10_init_5 : decode cX10_init 5 = .ok (.iconst 4, 1) := by decide +kernel
theorem dX10_init_6 : decode cX10_init 6 = .ok (.anewarray 19, 3) := by decide +kernel
theorem dX10_init_9 : decode cX10_init 9 = .ok (.putfield 21, 3) := by decide +kernel
theorem dX10_init_12 : decode cX10_init 12 = .ok (.iconst 0, 1) := by decide +kernel
theorem dX10_init_13 : decode cX10_init 13 = .ok (.istore_n 1, 1) := by decide +kernel
theorem dX10_init_14 : decode cX10_init 14 = .ok (.iload_n 1, 1) := by decide +kernel
theorem dX10_init_15 : decode cX10_init 15 = .ok (.iconst 4, 1) := by decide +kernel
theorem dX10_init_16 : decode cX10_init 16 = .ok (.if_icmp .ge 24, 3) := by decide +kernel
theorem dX10_init_19 : decode cX10_init 19 = .ok (.aload_n 0, 1) := by decide +kernel
theorem dX10_init_20 : decode cX10_init 20 = .ok (.getfield 21, 3) := by decide +kernel
theorem dX10_init_23 : decode cX10_init 23 = .ok (.iload_n 1, 1) := by decide +kernel
theorem dX10_init_24 : decode cX10_init 24 = .ok (.new 19, 3) := by decide +kernel
theorem dX10_init_27 : decode cX10_init 27 = .ok (.dup, 1) := by decide +kernel
theorem dX10_init_28 : decode cX10_init 28 = .ok (.iconst 1, 1) := by decide +kernel
theorem dX10_init_29 : decode cX10_init 29 = .ok (.iconst 1, 1) := by decide +kernel
theorem dX10_init_30 : decode cX10_init 30 = .ok (.invokespecial 25, 3) := by decide +kernel
theorem dX10_init_33 : decode cX10_init 33 = .ok (.aastore, 1) := by decide +kernel
theorem dX10_init_34 : decode cX10_init 34 = .ok (.iinc 1 1, 3) := by decide +kernel
theorem dX10_init_37 : decode cX10_init 37 = .ok (.goto (-23), 3) := by decide +kernel
theorem dX10_init_40 : decode cX10_init 40 = .ok (.return_, 1) := by decide +kernel
theorem dX10_thrown_0 : decode cX10_thrown 0 = .ok (.aload_n 0, 1) := by decide +kernel
theorem dX10_thrown_1 : decode cX10_thrown 1 = .ok (.getfield 28, 3) := by decide +kernel
theorem dX10_thrown_4 : decode cX10_thrown 4 = .ok (.ireturn, 1) := by decide +kernel
theorem dX10_isThrown_0 : decode cX10_isThrown 0 = .ok (.aload_n 0, 1) := by decide +kernel
theorem dX10_isThrown_1 : decode cX10_isThrown 1 = .ok (.iload_n 1, 1) := by decide +kernel
theorem dX10_isThrown_2 : decode cX10_isThrown 2 = .ok (.ifCond .eq 7, 3) := by decide +kernel
theorem dX10_isThrown_5 : decode cX10_isThrown 5 = .ok (.iconst 1, 1) := by decide +kernel
theorem dX10_isThrown_6 : decode cX10_isThrown 6 = .ok (.goto 20, 3) := by decide +kernel
theorem dX10_isThrown_9 : decode cX10_isThrown 9 = .ok (.iload_n 2, 1) := by decide +kernel
theorem dX10_isThrown_10 : decode cX10_isThrown 10 = .ok (.ifCond .eq 7, 3) := by decide +kernel
theorem dX10_isThrown_13 : decode cX10_isThrown 13 = .ok (.iconst 2, 1) := by decide +kernel
theorem dX10_isThrown_14 : decode cX10_isThrown 14 = .ok (.goto 12, 3) := by decide +kernel
theorem dX10_isThrown_17 : decode cX10_isThrown 17 = .ok (.iload_n 3, 1) := by decide +kernel
theorem dX10_isThrown_18 : decode cX10_isThrown 18 = .ok (.ifCond .eq 7, 3) := by decide +kernel
theorem dX10_isThrown_21 : decode cX10_isThrown 21 = .ok (.iconst 3, 1) := by decide +kernel
theorem dX10_isThrown_22 : decode cX10_isThrown 22 = .ok (.goto 4, 3) := by decide +kernel
theorem dX10_isThrown_25 : decode cX10_isThrown 25 = .ok (.iconst 0, 1) := by decide +kernel
theorem dX10_isThrown_26 : decode cX10_isThrown 26 = .ok (.putfield 28, 3) := by decide +kernel
theorem dX10_isThrown_29 : decode cX10_isThrown 29 = .ok (.aload_n 0, 1) := by decide +kernel
theorem dX10_isThrown_30 : decode cX10_isThrown 30 = .ok (.getfield 28, 3) := by decide +kernel
theorem dX10_isThrown_33 : decode cX10_isThrown 33 = .ok (.ifCond .le 7, 3) := by decide +kernel
theorem dX10_isThrown_36 : decode cX10_isThrown 36 = .ok (.iconst 1, 1) := by decide +kernel
theorem dX10_isThrown_37 : decode cX10_isThrown 37 = .ok (.goto 4, 3) := by decide +kernel
theorem dX10_isThrown_40 : decode cX10_isThrown 40 = .ok (.iconst 0, 1) := by decide +kernel
theorem dX10_isThrown_41 : decode cX10_isThrown 41 = .ok (.ireturn, 1) := by decide +kernel
theorem dX10_isThrown__0 : decode cX10_isThrown_ 0 = .ok (.aload_n 0, 1) := by decide +kernel
theorem dX10_isThrown__1 : decode cX10_isThrown_ 1 = .ok (.iload_n 1, 1) := by decide +kernel
theorem dX10_isThrown__2 : decode cX10_isThrown_ 2 = .ok (.iload_n 2, 1) := by decide +kernel
theorem dX10_isThrown__3 : decode cX10_isThrown_ 3 = .ok (.iconst 0, 1) := by decide +kernel
theorem dX10_isThrown__4 : decode cX10_isThrown_ 4 = .ok (.invokevirtual 32, 3) := by decide +kernel
theorem dX10_isThrown__7 : decode cX10_isThrown_ 7 = .ok (.ireturn, 1) := by decide +kernel
theorem dX10_isThrown___0 : decode cX10_isThrown__ 0 = .ok (.aload_n 0, 1) := by decide +kernel
theorem dX10_isThrown___1 : decode cX10_isThrown__ 1 = .ok (.iload_n 1, 1) := by decide +kernel
theorem dX10_isThrown___2 : decode cX10_isThrown__ 2 = .ok (.iconst 0, 1) := by decide +kernel
theorem dX10_isThrown___3 : decode cX10_isThrown__ 3 = .ok (.iconst 0, 1) := by decide +kernel
theorem dX10_isThrown___4 : decode cX10_isThrown__ 4 = .ok (.invokevirtual 32, 3) := by decide +kernel
theorem dX10_isThrown___7 : decode cX10_isThrown__ 7 = .ok (.ireturn, 1) := by decide +kernel
theorem dX10_told_0 : decode cX10_told 0 = .ok (.aload_n 0, 1) := by decide +kernel
theorem dX10_told_1 : decode cX10_told 1 = .ok (.dup, 1) := by decide +kernel
theorem dX10_told_2 : decode cX10_told 2 = .ok (.getfield 36, 3) := by decide +kernel
theorem dX10_told_5 : decode cX10_told 5 = .ok (.iconst 1, 1) := by decide +kernel
theorem dX10_told_6 : decode cX10_told 6 = .ok (.iadd, 1) := by decide +kernel
theorem dX10_told_7 : decode cX10_told 7 = .ok (.putfield 36, 3) := by decide +kernel
theorem dX10_told_10 : decode cX10_told 10 = .ok (.iload_n 1, 1) := by decide +kernel
theorem dX10_told_11 : decode cX10_told 11 = .ok (.ireturn, 1) := by decide +kernel
theorem dX10_no_0 : decode cX10_no 0 = .ok (.aload_n 0, 1) := by decide +kernel
theorem dX10_no_1 : decode cX10_no 1 = .ok (.dup, 1) := by decide +kernel
theorem dX10_no_2 : decode cX10_no 2 = .ok (.getfield 39, 3) := by decide +kernel
theorem dX10_no_5 : decode cX10_no 5 = .ok (.iconst 1, 1) := by decide +kernel
theorem dX10_no_6 : decode cX10_no 6 = .ok (.iadd, 1) := by decide +kernel
theorem dX10_no_7 : decode cX10_no 7 = .ok (.putfield 39, 3) := by decide +kernel
theorem dX10_no_10 : decode cX10_no 10 = .ok (.bipush (-9), 2) := by decide +kernel
theorem dX10_no_12 : decode cX10_no 12 = .ok (.ireturn, 1) := by decide +kernel
theorem dX10_isTable_0 : decode cX10_isTable 0 = .ok (.iload_n 0, 1) := by decide +kernel
theorem dX10_isTable_1 : decode cX10_isTable 1 = .ok (.ifCond .lt 12, 3) := by decide +kernel
theorem dX10_isTable_4 : decode cX10_isTable 4 = .ok (.iload_n 0, 1) := by decide +kernel
theorem dX10_isTable_5 : decode cX10_isTable 5 = .ok (.iconst 4, 1) := by decide +kernel
theorem dX10_isTable_6 : decode cX10_isTable 6 = .ok (.if_icmp .ge 7, 3) := by decide +kernel
theorem dX10_isTable_9 : decode cX10_isTable 9 = .ok (.iconst 1, 1) := by decide +kernel
theorem dX10_isTable_10 : decode cX10_isTable 10 = .ok (.goto 4, 3) := by decide +kernel
theorem dX10_isTable_13 : decode cX10_isTable 13 = .ok (.iconst 0, 1) := by decide +kernel
theorem dX10_isTable_14 : decode cX10_isTable 14 = .ok (.ireturn, 1) := by decide +kernel
theorem dX10_isRow_0 : decode cX10_isRow 0 = .ok (.iload_n 1, 1) := by decide +kernel
theorem dX10_isRow_1 : decode cX10_isRow 1 = .ok (.invokestatic 42, 3) := by decide +kernel
theorem dX10_isRow_4 : decode cX10_isRow 4 = .ok (.ifCond .eq 24, 3) := by decide +kernel
theorem dX10_isRow_7 : decode cX10_isRow 7 = .ok (.iload_n 2, 1) := by decide +kernel
theorem dX10_isRow_8 : decode cX10_isRow 8 = .ok (.ifCond .lt 20, 3) := by decide +kernel
theorem dX10_isRow_11 : decode cX10_isRow 11 = .ok (.iload_n 2, 1) := by decide +kernel
theorem dX10_isRow_12 : decode cX10_isRow 12 = .ok (.aload_n 0, 1) := by decide +kernel
theorem dX10_isRow_13 : decode cX10_isRow 13 = .ok (.getfield 21, 3) := by decide +kernel
theorem dX10_isRow_16 : decode cX10_isRow 16 = .ok (.iload_n 1, 1) := by decide +kernel
theorem dX10_isRow_17 : decode cX10_isRow 17 = .ok (.aaload, 1) := by decide +kernel
theorem dX10_isRow_18 : decode cX10_isRow 18 = .ok (.getfield 46, 3) := by decide +kernel
theorem dX10_isRow_21 : decode cX10_isRow 21 = .ok (.if_icmp .ge 7, 3) := by decide +kernel
theorem dX10_isRow_24 : decode cX10_isRow 24 = .ok (.iconst 1, 1) := by decide +kernel
theorem dX10_isRow_25 : decode cX10_isRow 25 = .ok (.goto 4, 3) := by decide +kernel
theorem dX10_isRow_28 : decode cX10_isRow 28 = .ok (.iconst 0, 1) := by decide +kernel
theorem dX10_isRow_29 : decode cX10_isRow 29 = .ok (.ireturn, 1) := by decide +kernel
theorem dX10_isColumn_0 : decode cX10_isColumn 0 = .ok (.iload_n 1, 1) := by decide +kernel
theorem dX10_isColumn_1 : decode cX10_isColumn 1 = .ok (.invokestatic 42, 3) := by decide +kernel
theorem dX10_isColumn_4 : decode cX10_isColumn 4 = .ok (.ifCond .eq 24, 3) := by decide +kernel
theorem dX10_isColumn_7 : decode cX10_isColumn 7 = .ok (.iload_n 2, 1) := by decide +kernel
theorem dX10_isColumn_8 : decode cX10_isColumn 8 = .ok (.ifCond .lt 20, 3) := by decide +kernel
theorem dX10_isColumn_11 : decode cX10_isColumn 11 = .ok (.iload_n 2, 1) := by decide +kernel
theorem dX10_isColumn_12 : decode cX10_isColumn 12 = .ok (.aload_n 0, 1) := by decide +kernel
theorem dX10_isColumn_13 : decode cX10_isColumn 13 = .ok (.getfield 21, 3) := by decide +kernel
theorem dX10_isColumn_16 : decode cX10_isColumn 16 = .ok (.iload_n 1, 1) := by decide +kernel
theorem dX10_isColumn_17 : decode cX10_isColumn 17 = .ok (.aaload, 1) := by decide +kernel
theorem dX10_isColumn_18 : decode cX10_isColumn 18 = .ok (.getfield 49, 3) := by decide +kernel
theorem dX10_isColumn_21 : decode cX10_isColumn 21 = .ok (.if_icmp .ge 7, 3) := by decide +kernel
theorem dX10_isColumn_24 : decode cX10_isColumn 24 = .ok (.iconst 1, 1) := by decide +kernel
theorem dX10_isColumn_25 : decode cX10_isColumn 25 = .ok (.goto 4, 3) := by decide +kernel
theorem dX10_isColumn_28 : decode cX10_isColumn 28 = .ok (.iconst 0, 1) := by decide +kernel
theorem dX10_isColumn_29 : decode cX10_isColumn 29 = .ok (.ireturn, 1) := by decide +kernel
theorem dX10_isLine_0 : decode cX10_isLine 0 = .ok (.iload_n 2, 1) := by decide +kernel
theorem dX10_isLine_1 : decode cX10_isLine 1 = .ok (.ifCond .eq 12, 3) := by decide +kernel
theorem dX10_isLine_4 : decode cX10_isLine 4 = .ok (.aload_n 0, 1) := by decide +kernel
theorem dX10_isLine_5 : decode cX10_isLine 5 = .ok (.iload_n 1, 1) := by decide +kernel
theorem dX10_isLine_6 : decode cX10_isLine 6 = .ok (.iload_n 3, 1) := by decide +kernel
theorem dX10_isLine_7 : decode cX10_isLine 7 = .ok (.invokevirtual 52, 3) := by decide +kernel
theorem dX10_isLine_10 : decode cX10_isLine 10 = .ok (.goto 9, 3) := by decide +kernel
theorem dX10_isLine_13 : decode cX10_isLine 13 = .ok (.aload_n 0, 1) := by decide +kernel
theorem dX10_isLine_14 : decode cX10_isLine 14 = .ok (.iload_n 1, 1) := by decide +kernel
theorem dX10_isLine_15 : decode cX10_isLine 15 = .ok (.iload_n 3, 1) := by decide +kernel
theorem dX10_isLine_16 : decode cX10_isLine 16 = .ok (.invokevirtual 56, 3) := by decide +kernel
theorem dX10_isLine_19 : decode cX10_isLine 19 = .ok (.ireturn, 1) := by decide +kernel
theorem dX10_isShort_0 : decode cX10_isShort 0 = .ok (.iload_n 0, 1) := by decide +kernel
theorem dX10_isShort_1 : decode cX10_isShort 1 = .ok (.iconst 1, 1) := by decide +kernel
theorem dX10_isShort_2 : decode cX10_isShort 2 = .ok (.if_icmp .lt 12, 3) := by decide +kernel
theorem dX10_isShort_5 : decode cX10_isShort 5 = .ok (.iload_n 0, 1) := by decide +kernel
theorem dX10_isShort_6 : decode cX10_isShort 6 = .ok (.iconst 4, 1) := by decide +kernel
theorem dX10_isShort_7 : decode cX10_isShort 7 = .ok (.if_icmp .gt 7, 3) := by decide +kernel
theorem dX10_isShort_10 : decode cX10_isShort 10 = .ok (.iconst 1, 1) := by decide +kernel
theorem dX10_isShort_11 : decode cX10_isShort 11 = .ok (.goto 4, 3) := by decide +kernel
theorem dX10_isShort_14 : decode cX10_isShort 14 = .ok (.iconst 0, 1) := by decide +kernel
theorem dX10_isShort_15 : decode cX10_isShort 15 = .ok (.ireturn, 1) := by decide +kernel
theorem dX10_become_0 : decode cX10_become 0 = .ok (.aload_n 2, 1) := by decide +kernel
theorem dX10_become_1 : decode cX10_become 1 = .ok (.invokevirtual 59, 3) := by decide +kernel
theorem dX10_become_4 : decode cX10_become 4 = .ok (.ifCond .ne 8, 3) := by decide +kernel
theorem dX10_become_7 : decode cX10_become 7 = .ok (.aload_n 0, 1) := by decide +kernel
theorem dX10_become_8 : decode cX10_become 8 = .ok (.invokevirtual 63, 3) := by decide +kernel
theorem dX10_become_11 : decode cX10_become 11 = .ok (.ireturn, 1) := by decide +kernel
theorem dX10_become_12 : decode cX10_become 12 = .ok (.aload_n 0, 1) := by decide +kernel
theorem dX10_become_13 : decode cX10_become 13 = .ok (.getfield 21, 3) := by decide +kernel
theorem dX10_become_16 : decode cX10_become 16 = .ok (.iload_n 1, 1) := by decide +kernel
theorem dX10_become_17 : decode cX10_become 17 = .ok (.aload_n 2, 1) := by decide +kernel
theorem dX10_become_18 : decode cX10_become 18 = .ok (.aastore, 1) := by decide +kernel
theorem dX10_become_19 : decode cX10_become 19 = .ok (.aload_n 0, 1) := by decide +kernel
theorem dX10_become_20 : decode cX10_become 20 = .ok (.aload_n 2, 1) := by decide +kernel
theorem dX10_become_21 : decode cX10_become 21 = .ok (.invokevirtual 67, 3) := by decide +kernel
theorem dX10_become_24 : decode cX10_become 24 = .ok (.invokevirtual 70, 3) := by decide +kernel
theorem dX10_become_27 : decode cX10_become 27 = .ok (.ireturn, 1) := by decide +kernel
theorem dX10_lay_0 : decode cX10_lay 0 = .ok (.aload_n 0, 1) := by decide +kernel
theorem dX10_lay_1 : decode cX10_lay 1 = .ok (.getfield 21, 3) := by decide +kernel
theorem dX10_lay_4 : decode cX10_lay 4 = .ok (.iload_n 1, 1) := by decide +kernel
theorem dX10_lay_5 : decode cX10_lay 5 = .ok (.aaload, 1) := by decide +kernel
theorem dX10_lay_6 : decode cX10_lay 6 = .ok (.invokevirtual 67, 3) := by decide +kernel
theorem dX10_lay_9 : decode cX10_lay 9 = .ok (.istore_n 3, 1) := by decide +kernel
theorem dX10_lay_10 : decode cX10_lay 10 = .ok (.aload_n 0, 1) := by decide +kernel
theorem dX10_lay_11 : decode cX10_lay 11 = .ok (.getfield 21, 3) := by decide +kernel
theorem dX10_lay_14 : decode cX10_lay 14 = .ok (.iload_n 1, 1) := by decide +kernel
theorem dX10_lay_15 : decode cX10_lay 15 = .ok (.aload_n 2, 1) := by decide +kernel
theorem dX10_lay_16 : decode cX10_lay 16 = .ok (.aastore, 1) := by decide +kernel
theorem dX10_lay_17 : decode cX10_lay 17 = .ok (.aload_n 0, 1) := by decide +kernel
theorem dX10_lay_18 : decode cX10_lay 18 = .ok (.iload_n 3, 1) := by decide +kernel
theorem dX10_lay_19 : decode cX10_lay 19 = .ok (.invokevirtual 70, 3) := by decide +kernel
theorem dX10_lay_22 : decode cX10_lay 22 = .ok (.ireturn, 1) := by decide +kernel
theorem dX10_make_0 : decode cX10_make 0 = .ok (.aload_n 0, 1) := by decide +kernel
theorem dX10_make_1 : decode cX10_make 1 = .ok (.iload_n 1, 1) := by decide +kernel
theorem dX10_make_2 : decode cX10_make 2 = .ok (.invokestatic 42, 3) := by decide +kernel
theorem dX10_make_5 : decode cX10_make 5 = .ok (.ifCond .ne 7, 3) := by decide +kernel
theorem dX10_make_8 : decode cX10_make 8 = .ok (.iconst 1, 1) := by decide +kernel
theorem dX10_make_9 : decode cX10_make 9 = .ok (.goto 4, 3) := by decide +kernel
theorem dX10_make_12 : decode cX10_make 12 = .ok (.iconst 0, 1) := by decide +kernel
theorem dX10_make_13 : decode cX10_make 13 = .ok (.iload_n 2, 1) := by decide +kernel
theorem dX10_make_14 : decode cX10_make 14 = .ok (.invokestatic 74, 3) := by decide +kernel
theorem dX10_make_17 : decode cX10_make 17 = .ok (.ifCond .eq 10, 3) := by decide +kernel
theorem dX10_make_20 : decode cX10_make 20 = .ok (.iload_n 3, 1) := by decide +kernel
theorem dX10_make_21 : decode cX10_make 21 = .ok (.invokestatic 74, 3) := by decide +kernel
theorem dX10_make_24 : decode cX10_make 24 = .ok (.ifCond .ne 7, 3) := by decide +kernel
theorem dX10_make_27 : decode cX10_make 27 = .ok (.iconst 1, 1) := by decide +kernel
theorem dX10_make_28 : decode cX10_make 28 = .ok (.goto 4, 3) := by decide +kernel
theorem dX10_make_31 : decode cX10_make 31 = .ok (.iconst 0, 1) := by decide +kernel
theorem dX10_make_32 : decode cX10_make 32 = .ok (.invokevirtual 77, 3) := by decide +kernel
theorem dX10_make_35 : decode cX10_make 35 = .ok (.ifCond .eq 7, 3) := by decide +kernel
theorem dX10_make_38 : decode cX10_make 38 = .ok (.iconst 0, 1) := by decide +kernel
theorem dX10_make_39 : decode cX10_make 39 = .ok (.goto 17, 3) := by decide +kernel
theorem dX10_make_42 : decode cX10_make 42 = .ok (.aload_n 0, 1) := by decide +kernel
theorem dX10_make_43 : decode cX10_make 43 = .ok (.iload_n 1, 1) := by decide +kernel
theorem dX10_make_44 : decode cX10_make 44 = .ok (.new 19, 3) := by decide +kernel
theorem dX10_make_47 : decode cX10_make 47 = .ok (.dup, 1) := by decide +kernel
theorem dX10_make_48 : decode cX10_make 48 = .ok (.iload_n 2, 1) := by decide +kernel
theorem dX10_make_49 : decode cX10_make 49 = .ok (.iload_n 3, 1) := by decide +kernel
theorem dX10_make_50 : decode cX10_make 50 = .ok (.invokespecial 25, 3) := by decide +kernel
theorem dX10_make_53 : decode cX10_make 53 = .ok (.invokevirtual 80, 3) := by decide +kernel
theorem dX10_make_56 : decode cX10_make 56 = .ok (.ireturn, 1) := by decide +kernel
theorem dX10_unit_0 : decode cX10_unit 0 = .ok (.aload_n 0, 1) := by decide +kernel
theorem dX10_unit_1 : decode cX10_unit 1 = .ok (.iload_n 1, 1) := by decide +kernel
theorem dX10_unit_2 : decode cX10_unit 2 = .ok (.invokestatic 42, 3) := by decide +kernel
theorem dX10_unit_5 : decode cX10_unit 5 = .ok (.ifCond .ne 7, 3) := by decide +kernel
theorem dX10_unit_8 : decode cX10_unit 8 = .ok (.iconst 1, 1) := by decide +kernel
theorem dX10_unit_9 : decode cX10_unit 9 = .ok (.goto 4, 3) := by decide +kernel
theorem dX10_unit_12 : decode cX10_unit 12 = .ok (.iconst 0, 1) := by decide +kernel
theorem dX10_unit_13 : decode cX10_unit 13 = .ok (.iload_n 2, 1) := by decide +kernel
theorem dX10_unit_14 : decode cX10_unit 14 = .ok (.invokestatic 74, 3) := by decide +kernel
theorem dX10_unit_17 : decode cX10_unit 17 = .ok (.ifCond .ne 7, 3) := by decide +kernel
theorem dX10_unit_20 : decode cX10_unit 20 = .ok (.iconst 1, 1) := by decide +kernel
theorem dX10_unit_21 : decode cX10_unit 21 = .ok (.goto 4, 3) := by decide +kernel
theorem dX10_unit_24 : decode cX10_unit 24 = .ok (.iconst 0, 1) := by decide +kernel
theorem dX10_unit_25 : decode cX10_unit 25 = .ok (.invokevirtual 77, 3) := by decide +kernel
theorem dX10_unit_28 : decode cX10_unit 28 = .ok (.ifCond .eq 7, 3) := by decide +kernel
theorem dX10_unit_31 : decode cX10_unit 31 = .ok (.iconst 0, 1) := by decide +kernel
theorem dX10_unit_32 : decode cX10_unit 32 = .ok (.goto 12, 3) := by decide +kernel
theorem dX10_unit_35 : decode cX10_unit 35 = .ok (.aload_n 0, 1) := by decide +kernel
theorem dX10_unit_36 : decode cX10_unit 36 = .ok (.iload_n 1, 1) := by decide +kernel
theorem dX10_unit_37 : decode cX10_unit 37 = .ok (.iload_n 2, 1) := by decide +kernel
theorem dX10_unit_38 : decode cX10_unit 38 = .ok (.invokestatic 84, 3) := by decide +kernel
theorem dX10_unit_41 : decode cX10_unit 41 = .ok (.invokevirtual 80, 3) := by decide +kernel
theorem dX10_unit_44 : decode cX10_unit 44 = .ok (.ireturn, 1) := by decide +kernel
theorem dX10_put_0 : decode cX10_put 0 = .ok (.aload_n 0, 1) := by decide +kernel
theorem dX10_put_1 : decode cX10_put 1 = .ok (.aload_n 0, 1) := by decide +kernel
theorem dX10_put_2 : decode cX10_put 2 = .ok (.iload_n 1, 1) := by decide +kernel
theorem dX10_put_3 : decode cX10_put 3 = .ok (.iload_n 2, 1) := by decide +kernel
theorem dX10_put_4 : decode cX10_put 4 = .ok (.invokevirtual 56, 3) := by decide +kernel
theorem dX10_put_7 : decode cX10_put 7 = .ok (.ifCond .eq 12, 3) := by decide +kernel
theorem dX10_put_10 : decode cX10_put 10 = .ok (.aload_n 0, 1) := by decide +kernel
theorem dX10_put_11 : decode cX10_put 11 = .ok (.iload_n 1, 1) := by decide +kernel
theorem dX10_put_12 : decode cX10_put 12 = .ok (.iload_n 3, 1) := by decide +kernel
theorem dX10_put_13 : decode cX10_put 13 = .ok (.invokevirtual 52, 3) := by decide +kernel
theorem dX10_put_16 : decode cX10_put 16 = .ok (.ifCond .ne 7, 3) := by decide +kernel
theorem dX10_put_19 : decode cX10_put 19 = .ok (.iconst 1, 1) := by decide +kernel
theorem dX10_put_20 : decode cX10_put 20 = .ok (.goto 4, 3) := by decide +kernel
theorem dX10_put_23 : decode cX10_put 23 = .ok (.iconst 0, 1) := by decide +kernel
theorem dX10_put_24 : decode cX10_put 24 = .ok (.iload 4, 2) := by decide +kernel
theorem dX10_put_26 : decode cX10_put 26 = .ok (.bipush (-20), 2) := by decide +kernel
theorem dX10_put_28 : decode cX10_put 28 = .ok (.if_icmp .lt 10, 3) := by decide +kernel
theorem dX10_put_31 : decode cX10_put 31 = .ok (.iload 4, 2) := by decide +kernel
theorem dX10_put_33 : decode cX10_put 33 = .ok (.bipush 20, 2) := by decide +kernel
theorem dX10_put_35 : decode cX10_put 35 = .ok (.if_icmp .le 7, 3) := by decide +kernel
theorem dX10_put_38 : decode cX10_put 38 = .ok (.iconst 1, 1) := by decide +kernel
theorem dX10_put_39 : decode cX10_put 39 = .ok (.goto 4, 3) := by decide +kernel
theorem dX10_put_42 : decode cX10_put 42 = .ok (.iconst 0, 1) := by decide +kernel
theorem dX10_put_43 : decode cX10_put 43 = .ok (.invokevirtual 77, 3) := by decide +kernel
theorem dX10_put_46 : decode cX10_put 46 = .ok (.ifCond .eq 5, 3) := by decide +kernel
theorem dX10_put_49 : decode cX10_put 49 = .ok (.iconst 0, 1) := by decide +kernel
theorem dX10_put_50 : decode cX10_put 50 = .ok (.ireturn, 1) := by decide +kernel
theorem dX10_put_51 : decode cX10_put 51 = .ok (.aload_n 0, 1) := by decide +kernel
theorem dX10_put_52 : decode cX10_put 52 = .ok (.getfield 21, 3) := by decide +kernel
theorem dX10_put_55 : decode cX10_put 55 = .ok (.iload_n 1, 1) := by decide +kernel
theorem dX10_put_56 : decode cX10_put 56 = .ok (.aaload, 1) := by decide +kernel
theorem dX10_put_57 : decode cX10_put 57 = .ok (.iload_n 2, 1) := by decide +kernel
theorem dX10_put_58 : decode cX10_put 58 = .ok (.iload_n 3, 1) := by decide +kernel
theorem dX10_put_59 : decode cX10_put 59 = .ok (.invokevirtual 88, 3) := by decide +kernel
theorem dX10_put_62 : decode cX10_put 62 = .ok (.iload 4, 2) := by decide +kernel
theorem dX10_put_64 : decode cX10_put 64 = .ok (.i2l, 1) := by decide +kernel
theorem dX10_put_65 : decode cX10_put 65 = .ok (.lcmp, 1) := by decide +kernel
theorem dX10_put_66 : decode cX10_put 66 = .ok (.ifCond .eq 7, 3) := by decide +kernel
theorem dX10_put_69 : decode cX10_put 69 = .ok (.iconst 1, 1) := by decide +kernel
theorem dX10_put_70 : decode cX10_put 70 = .ok (.goto 4, 3) := by decide +kernel
theorem dX10_put_73 : decode cX10_put 73 = .ok (.iconst 0, 1) := by decide +kernel
theorem dX10_put_74 : decode cX10_put 74 = .ok (.istore 5, 2) := by decide +kernel
theorem dX10_put_76 : decode cX10_put 76 = .ok (.aload_n 0, 1) := by decide +kernel
theorem dX10_put_77 : decode cX10_put 77 = .ok (.getfield 21, 3) := by decide +kernel
theorem dX10_put_80 : decode cX10_put 80 = .ok (.iload_n 1, 1) := by decide +kernel
theorem dX10_put_81 : decode cX10_put 81 = .ok (.aaload, 1) := by decide +kernel
theorem dX10_put_82 : decode cX10_put 82 = .ok (.iload_n 2, 1) := by decide +kernel
theorem dX10_put_83 : decode cX10_put 83 = .ok (.iload_n 3, 1) := by decide +kernel
theorem dX10_put_84 : decode cX10_put 84 = .ok (.iload 4, 2) := by decide +kernel
theorem dX10_put_86 : decode cX10_put 86 = .ok (.i2l, 1) := by decide +kernel
theorem dX10_put_87 : decode cX10_put 87 = .ok (.invokevirtual 92, 3) := by decide +kernel
theorem dX10_put_90 : decode cX10_put 90 = .ok (.aload_n 0, 1) := by decide +kernel
theorem dX10_put_91 : decode cX10_put 91 = .ok (.iload 5, 2) := by decide +kernel
theorem dX10_put_93 : decode cX10_put 93 = .ok (.ifCond .eq 7, 3) := by decide +kernel
theorem dX10_put_96 : decode cX10_put 96 = .ok (.iconst 1, 1) := by decide +kernel
theorem dX10_put_97 : decode cX10_put 97 = .ok (.goto 4, 3) := by decide +kernel
theorem dX10_put_100 : decode cX10_put 100 = .ok (.iconst 0, 1) := by decide +kernel
theorem dX10_put_101 : decode cX10_put 101 = .ok (.invokevirtual 70, 3) := by decide +kernel
theorem dX10_put_104 : decode cX10_put 104 = .ok (.ireturn, 1) := by decide +kernel
theorem dX10_sow_0 : decode cX10_sow 0 = .ok (.aload_n 0, 1) := by decide +kernel
theorem dX10_sow_1 : decode cX10_sow 1 = .ok (.iload_n 1, 1) := by decide +kernel
theorem dX10_sow_2 : decode cX10_sow 2 = .ok (.invokestatic 42, 3) := by decide +kernel
theorem dX10_sow_5 : decode cX10_sow 5 = .ok (.ifCond .ne 7, 3) := by decide +kernel
theorem dX10_sow_8 : decode cX10_sow 8 = .ok (.iconst 1, 1) := by decide +kernel
theorem dX10_sow_9 : decode cX10_sow 9 = .ok (.goto 4, 3) := by decide +kernel
theorem dX10_sow_12 : decode cX10_sow 12 = .ok (.iconst 0, 1) := by decide +kernel
theorem dX10_sow_13 : decode cX10_sow 13 = .ok (.iload_n 2, 1) := by decide +kernel
theorem dX10_sow_14 : decode cX10_sow 14 = .ok (.ifCond .lt 19, 3) := by decide +kernel
theorem dX10_sow_17 : decode cX10_sow 17 = .ok (.iload_n 2, 1) := by decide +kernel
theorem dX10_sow_18 : decode cX10_sow 18 = .ok (.ldc 96, 2) := by decide +kernel
theorem dX10_sow_20 : decode cX10_sow 20 = .ok (.if_icmp .gt 13, 3) := by decide +kernel
theorem dX10_sow_23 : decode cX10_sow 23 = .ok (.iload_n 3, 1) := by decide +kernel
theorem dX10_sow_24 : decode cX10_sow 24 = .ok (.ifCond .lt 9, 3) := by decide +kernel
theorem dX10_sow_27 : decode cX10_sow 27 = .ok (.iload_n 3, 1) := by decide +kernel
theorem dX10_sow_28 : decode cX10_sow 28 = .ok (.bipush 20, 2) := by decide +kernel
theorem dX10_sow_30 : decode cX10_sow 30 = .ok (.if_icmp .le 7, 3) := by decide +kernel
theorem dX10_sow_33 : decode cX10_sow 33 = .ok (.iconst 1, 1) := by decide +kernel
theorem dX10_sow_34 : decode cX10_sow 34 = .ok (.goto 4, 3) := by decide +kernel
theorem dX10_sow_37 : decode cX10_sow 37 = .ok (.iconst 0, 1) := by decide +kernel
theorem dX10_sow_38 : decode cX10_sow 38 = .ok (.invokevirtual 77, 3) := by decide +kernel
theorem dX10_sow_41 : decode cX10_sow 41 = .ok (.ifCond .eq 5, 3) := by decide +kernel
theorem dX10_sow_44 : decode cX10_sow 44 = .ok (.iconst 0, 1) := by decide +kernel
theorem dX10_sow_45 : decode cX10_sow 45 = .ok (.ireturn, 1) := by decide +kernel
theorem dX10_sow_46 : decode cX10_sow 46 = .ok (.aload_n 0, 1) := by decide +kernel
theorem dX10_sow_47 : decode cX10_sow 47 = .ok (.getfield 21, 3) := by decide +kernel
theorem dX10_sow_50 : decode cX10_sow 50 = .ok (.iload_n 1, 1) := by decide +kernel
theorem dX10_sow_51 : decode cX10_sow 51 = .ok (.aaload, 1) := by decide +kernel
theorem dX10_sow_52 : decode cX10_sow 52 = .ok (.astore 4, 2) := by decide +kernel
theorem dX10_sow_54 : decode cX10_sow 54 = .ok (.iload_n 2, 1) := by decide +kernel
theorem dX10_sow_55 : decode cX10_sow 55 = .ok (.i2l, 1) := by decide +kernel
theorem dX10_sow_56 : decode cX10_sow 56 = .ok (.lstore 5, 2) := by decide +kernel
theorem dX10_sow_58 : decode cX10_sow 58 = .ok (.iconst 0, 1) := by decide +kernel
theorem dX10_sow_59 : decode cX10_sow 59 = .ok (.istore 7, 2) := by decide +kernel
theorem dX10_sow_61 : decode cX10_sow 61 = .ok (.iload 7, 2) := by decide +kernel
theorem dX10_sow_63 : decode cX10_sow 63 = .ok (.aload 4, 2) := by decide +kernel
theorem dX10_sow_65 : decode cX10_sow 65 = .ok (.getfield 46, 3) := by decide +kernel
theorem dX10_sow_68 : decode cX10_sow 68 = .ok (.if_icmp .ge 69, 3) := by decide +kernel
theorem dX10_sow_71 : decode cX10_sow 71 = .ok (.iconst 0, 1) := by decide +kernel
theorem dX10_sow_72 : decode cX10_sow 72 = .ok (.istore 8, 2) := by decide +kernel
theorem dX10_sow_74 : decode cX10_sow 74 = .ok (.iload 8, 2) := by decide +kernel
theorem dX10_sow_76 : decode cX10_sow 76 = .ok (.aload 4, 2) := by decide +kernel
theorem dX10_sow_78 : decode cX10_sow 78 = .ok (.getfield 49, 3) := by decide +kernel
theorem dX10_sow_81 : decode cX10_sow 81 = .ok (.if_icmp .ge 50, 3) := by decide +kernel
theorem dX10_sow_84 : decode cX10_sow 84 = .ok (.lload 5, 2) := by decide +kernel
theorem dX10_sow_86 : decode cX10_sow 86 = .ok (.ldc2_w 97, 3) := by decide +kernel
theorem dX10_sow_89 : decode cX10_sow 89 = .ok (.lmul, 1) := by decide +kernel
theorem dX10_sow_90 : decode cX10_sow 90 = .ok (.ldc2_w 99, 3) := by decide +kernel
theorem dX10_sow_93 : decode cX10_sow 93 = .ok (.ladd, 1) := by decide +kernel
theorem dX10_sow_94 : decode cX10_sow 94 = .ok (.ldc2_w 101, 3) := by decide +kernel
theorem dX10_sow_97 : decode cX10_sow 97 = .ok (.lrem, 1) := by decide +kernel
theorem dX10_sow_98 : decode cX10_sow 98 = .ok (.lstore 5, 2) := by decide +kernel
theorem dX10_sow_100 : decode cX10_sow 100 = .ok (.aload 4, 2) := by decide +kernel
theorem dX10_sow_102 : decode cX10_sow 102 = .ok (.iload 7, 2) := by decide +kernel
theorem dX10_sow_104 : decode cX10_sow 104 = .ok (.iload 8, 2) := by decide +kernel
theorem dX10_sow_106 : decode cX10_sow 106 = .ok (.lload 5, 2) := by decide +kernel
theorem dX10_sow_108 : decode cX10_sow 108 = .ok (.ldc2_w 103, 3) := by decide +kernel
theorem dX10_sow_111 : decode cX10_sow 111 = .ok (.ldiv, 1) := by decide +kernel
theorem dX10_sow_112 : decode cX10_sow 112 = .ok (.iconst 2, 1) := by decide +kernel
theorem dX10_sow_113 : decode cX10_sow 113 = .ok (.iload_n 3, 1) := by decide +kernel
theorem dX10_sow_114 : decode cX10_sow 114 = .ok (.imul, 1) := by decide +kernel
theorem dX10_sow_115 : decode cX10_sow 115 = .ok (.iconst 1, 1) := by decide +kernel
theorem dX10_sow_116 : decode cX10_sow 116 = .ok (.iadd, 1) := by decide +kernel
theorem dX10_sow_117 : decode cX10_sow 117 = .ok (.i2l, 1) := by decide +kernel
theorem dX10_sow_118 : decode cX10_sow 118 = .ok (.lrem, 1) := by decide +kernel
theorem dX10_sow_119 : decode cX10_sow 119 = .ok (.iload_n 3, 1) := by decide +kernel
theorem dX10_sow_120 : decode cX10_sow 120 = .ok (.i2l, 1) := by decide +kernel
theorem dX10_sow_121 : decode cX10_sow 121 = .ok (.lsub, 1) := by decide +kernel
theorem dX10_sow_122 : decode cX10_sow 122 = .ok (.invokevirtual 92, 3) := by decide +kernel
theorem dX10_sow_125 : decode cX10_sow 125 = .ok (.iinc 8 1, 3) := by decide +kernel
theorem dX10_sow_128 : decode cX10_sow 128 = .ok (.goto (-54), 3) := by decide +kernel
theorem dX10_sow_131 : decode cX10_sow 131 = .ok (.iinc 7 1, 3) := by decide +kernel
theorem dX10_sow_134 : decode cX10_sow 134 = .ok (.goto (-73), 3) := by decide +kernel
theorem dX10_sow_137 : decode cX10_sow 137 = .ok (.aload_n 0, 1) := by decide +kernel
theorem dX10_sow_138 : decode cX10_sow 138 = .ok (.aload 4, 2) := by decide +kernel
theorem dX10_sow_140 : decode cX10_sow 140 = .ok (.getfield 46, 3) := by decide +kernel
theorem dX10_sow_143 : decode cX10_sow 143 = .ok (.aload 4, 2) := by decide +kernel
theorem dX10_sow_145 : decode cX10_sow 145 = .ok (.getfield 49, 3) := by decide +kernel
theorem dX10_sow_148 : decode cX10_sow 148 = .ok (.imul, 1) := by decide +kernel
theorem dX10_sow_149 : decode cX10_sow 149 = .ok (.aload 4, 2) := by decide +kernel
theorem dX10_sow_151 : decode cX10_sow 151 = .ok (.invokevirtual 67, 3) := by decide +kernel
theorem dX10_sow_154 : decode cX10_sow 154 = .ok (.isub, 1) := by decide +kernel
theorem dX10_sow_155 : decode cX10_sow 155 = .ok (.invokevirtual 70, 3) := by decide +kernel
theorem dX10_sow_158 : decode cX10_sow 158 = .ok (.ireturn, 1) := by decide +kernel
theorem dX10_copy_0 : decode cX10_copy 0 = .ok (.aload_n 0, 1) := by decide +kernel
theorem dX10_copy_1 : decode cX10_copy 1 = .ok (.iload_n 1, 1) := by decide +kernel
theorem dX10_copy_2 : decode cX10_copy 2 = .ok (.invokestatic 42, 3) := by decide +kernel
theorem dX10_copy_5 : decode cX10_copy 5 = .ok (.ifCond .eq 10, 3) := by decide +kernel
theorem dX10_copy_8 : decode cX10_copy 8 = .ok (.iload_n 2, 1) := by decide +kernel
theorem dX10_copy_9 : decode cX10_copy 9 = .ok (.invokestatic 42, 3) := by decide +kernel
theorem dX10_copy_12 : decode cX10_copy 12 = .ok (.ifCond .ne 7, 3) := by decide +kernel
theorem dX10_copy_15 : decode cX10_copy 15 = .ok (.iconst 1, 1) := by decide +kernel
theorem dX10_copy_16 : decode cX10_copy 16 = .ok (.goto 4, 3) := by decide +kernel
theorem dX10_copy_19 : decode cX10_copy 19 = .ok (.iconst 0, 1) := by decide +kernel
theorem dX10_copy_20 : decode cX10_copy 20 = .ok (.invokevirtual 105, 3) := by decide +kernel
theorem dX10_copy_23 : decode cX10_copy 23 = .ok (.ifCond .eq 5, 3) := by decide +kernel
theorem dX10_copy_26 : decode cX10_copy 26 = .ok (.iconst 0, 1) := by decide +kernel
theorem dX10_copy_27 : decode cX10_copy 27 = .ok (.ireturn, 1) := by decide +kernel
theorem dX10_copy_28 : decode cX10_copy 28 = .ok (.aload_n 0, 1) := by decide +kernel
theorem dX10_copy_29 : decode cX10_copy 29 = .ok (.getfield 21, 3) := by decide +kernel
theorem dX10_copy_32 : decode cX10_copy 32 = .ok (.iload_n 1, 1) := by decide +kernel
theorem dX10_copy_33 : decode cX10_copy 33 = .ok (.aaload, 1) := by decide +kernel
theorem dX10_copy_34 : decode cX10_copy 34 = .ok (.aload_n 0, 1) := by decide +kernel
theorem dX10_copy_35 : decode cX10_copy 35 = .ok (.getfield 21, 3) := by decide +kernel
theorem dX10_copy_38 : decode cX10_copy 38 = .ok (.iload_n 2, 1) := by decide +kernel
theorem dX10_copy_39 : decode cX10_copy 39 = .ok (.aaload, 1) := by decide +kernel
theorem dX10_copy_40 : decode cX10_copy 40 = .ok (.invokevirtual 108, 3) := by decide +kernel
theorem dX10_copy_43 : decode cX10_copy 43 = .ok (.ifCond .ne 7, 3) := by decide +kernel
theorem dX10_copy_46 : decode cX10_copy 46 = .ok (.iconst 1, 1) := by decide +kernel
theorem dX10_copy_47 : decode cX10_copy 47 = .ok (.goto 4, 3) := by decide +kernel
theorem dX10_copy_50 : decode cX10_copy 50 = .ok (.iconst 0, 1) := by decide +kernel
theorem dX10_copy_51 : decode cX10_copy 51 = .ok (.istore_n 3, 1) := by decide +kernel
theorem dX10_copy_52 : decode cX10_copy 52 = .ok (.aload_n 0, 1) := by decide +kernel
theorem dX10_copy_53 : decode cX10_copy 53 = .ok (.getfield 21, 3) := by decide +kernel
theorem dX10_copy_56 : decode cX10_copy 56 = .ok (.iload_n 2, 1) := by decide +kernel
theorem dX10_copy_57 : decode cX10_copy 57 = .ok (.aload_n 0, 1) := by decide +kernel
theorem dX10_copy_58 : decode cX10_copy 58 = .ok (.getfield 21, 3) := by decide +kernel
theorem dX10_copy_61 : decode cX10_copy 61 = .ok (.iload_n 1, 1) := by decide +kernel
theorem dX10_copy_62 : decode cX10_copy 62 = .ok (.aaload, 1) := by decide +kernel
theorem dX10_copy_63 : decode cX10_copy 63 = .ok (.invokevirtual 112, 3) := by decide +kernel
theorem dX10_copy_66 : decode cX10_copy 66 = .ok (.aastore, 1) := by decide +kernel
theorem dX10_copy_67 : decode cX10_copy 67 = .ok (.aload_n 0, 1) := by decide +kernel
theorem dX10_copy_68 : decode cX10_copy 68 = .ok (.iload_n 3, 1) := by decide +kernel
theorem dX10_copy_69 : decode cX10_copy 69 = .ok (.ifCond .eq 7, 3) := by decide +kernel
theorem dX10_copy_72 : decode cX10_copy 72 = .ok (.iconst 1, 1) := by decide +kernel
theorem dX10_copy_73 : decode cX10_copy 73 = .ok (.goto 4, 3) := by decide +kernel
theorem dX10_copy_76 : decode cX10_copy 76 = .ok (.iconst 0, 1) := by decide +kernel
theorem dX10_copy_77 : decode cX10_copy 77 = .ok (.invokevirtual 70, 3) := by decide +kernel
theorem dX10_copy_80 : decode cX10_copy 80 = .ok (.ireturn, 1) := by decide +kernel
theorem dX10_swap_0 : decode cX10_swap 0 = .ok (.aload_n 0, 1) := by decide +kernel
theorem dX10_swap_1 : decode cX10_swap 1 = .ok (.iload_n 1, 1) := by decide +kernel
theorem dX10_swap_2 : decode cX10_swap 2 = .ok (.invokestatic 42, 3) := by decide +kernel
theorem dX10_swap_5 : decode cX10_swap 5 = .ok (.ifCond .eq 10, 3) := by decide +kernel
theorem dX10_swap_8 : decode cX10_swap 8 = .ok (.iload_n 2, 1) := by decide +kernel
theorem dX10_swap_9 : decode cX10_swap 9 = .ok (.invokestatic 42, 3) := by decide +kernel
theorem dX10_swap_12 : decode cX10_swap 12 = .ok (.ifCond .ne 7, 3) := by decide +kernel
theorem dX10_swap_15 : decode cX10_swap 15 = .ok (.iconst 1, 1) := by decide +kernel
theorem dX10_swap_16 : decode cX10_swap 16 = .ok (.goto 4, 3) := by decide +kernel
theorem dX10_swap_19 : decode cX10_swap 19 = .ok (.iconst 0, 1) := by decide +kernel
theorem dX10_swap_20 : decode cX10_swap 20 = .ok (.invokevirtual 105, 3) := by decide +kernel
theorem dX10_swap_23 : decode cX10_swap 23 = .ok (.ifCond .eq 5, 3) := by decide +kernel
theorem dX10_swap_26 : decode cX10_swap 26 = .ok (.iconst 0, 1) := by decide +kernel
theorem dX10_swap_27 : decode cX10_swap 27 = .ok (.ireturn, 1) := by decide +kernel
theorem dX10_swap_28 : decode cX10_swap 28 = .ok (.aload_n 0, 1) := by decide +kernel
theorem dX10_swap_29 : decode cX10_swap 29 = .ok (.getfield 21, 3) := by decide +kernel
theorem dX10_swap_32 : decode cX10_swap 32 = .ok (.iload_n 1, 1) := by decide +kernel
theorem dX10_swap_33 : decode cX10_swap 33 = .ok (.aaload, 1) := by decide +kernel
theorem dX10_swap_34 : decode cX10_swap 34 = .ok (.aload_n 0, 1) := by decide +kernel
theorem dX10_swap_35 : decode cX10_swap 35 = .ok (.getfield 21, 3) := by decide +kernel
theorem dX10_swap_38 : decode cX10_swap 38 = .ok (.iload_n 2, 1) := by decide +kernel
theorem dX10_swap_39 : decode cX10_swap 39 = .ok (.aaload, 1) := by decide +kernel
theorem dX10_swap_40 : decode cX10_swap 40 = .ok (.invokevirtual 108, 3) := by decide +kernel
theorem dX10_swap_43 : decode cX10_swap 43 = .ok (.ifCond .ne 7, 3) := by decide +kernel
theorem dX10_swap_46 : decode cX10_swap 46 = .ok (.iconst 1, 1) := by decide +kernel
theorem dX10_swap_47 : decode cX10_swap 47 = .ok (.goto 4, 3) := by decide +kernel
theorem dX10_swap_50 : decode cX10_swap 50 = .ok (.iconst 0, 1) := by decide +kernel
theorem dX10_swap_51 : decode cX10_swap 51 = .ok (.istore_n 3, 1) := by decide +kernel
theorem dX10_swap_52 : decode cX10_swap 52 = .ok (.aload_n 0, 1) := by decide +kernel
theorem dX10_swap_53 : decode cX10_swap 53 = .ok (.getfield 21, 3) := by decide +kernel
theorem dX10_swap_56 : decode cX10_swap 56 = .ok (.iload_n 1, 1) := by decide +kernel
theorem dX10_swap_57 : decode cX10_swap 57 = .ok (.aaload, 1) := by decide +kernel
theorem dX10_swap_58 : decode cX10_swap 58 = .ok (.astore 4, 2) := by decide +kernel
theorem dX10_swap_60 : decode cX10_swap 60 = .ok (.aload_n 0, 1) := by decide +kernel
theorem dX10_swap_61 : decode cX10_swap 61 = .ok (.getfield 21, 3) := by decide +kernel
theorem dX10_swap_64 : decode cX10_swap 64 = .ok (.iload_n 1, 1) := by decide +kernel
theorem dX10_swap_65 : decode cX10_swap 65 = .ok (.aload_n 0, 1) := by decide +kernel
theorem dX10_swap_66 : decode cX10_swap 66 = .ok (.getfield 21, 3) := by decide +kernel
theorem dX10_swap_69 : decode cX10_swap 69 = .ok (.iload_n 2, 1) := by decide +kernel
theorem dX10_swap_70 : decode cX10_swap 70 = .ok (.aaload, 1) := by decide +kernel
theorem dX10_swap_71 : decode cX10_swap 71 = .ok (.aastore, 1) := by decide +kernel
theorem dX10_swap_72 : decode cX10_swap 72 = .ok (.aload_n 0, 1) := by decide +kernel
theorem dX10_swap_73 : decode cX10_swap 73 = .ok (.getfield 21, 3) := by decide +kernel
theorem dX10_swap_76 : decode cX10_swap 76 = .ok (.iload_n 2, 1) := by decide +kernel
theorem dX10_swap_77 : decode cX10_swap 77 = .ok (.aload 4, 2) := by decide +kernel
theorem dX10_swap_79 : decode cX10_swap 79 = .ok (.aastore, 1) := by decide +kernel
theorem dX10_swap_80 : decode cX10_swap 80 = .ok (.aload_n 0, 1) := by decide +kernel
theorem dX10_swap_81 : decode cX10_swap 81 = .ok (.iload_n 3, 1) := by decide +kernel
theorem dX10_swap_82 : decode cX10_swap 82 = .ok (.ifCond .eq 7, 3) := by decide +kernel
theorem dX10_swap_85 : decode cX10_swap 85 = .ok (.iconst 1, 1) := by decide +kernel
theorem dX10_swap_86 : decode cX10_swap 86 = .ok (.goto 4, 3) := by decide +kernel
theorem dX10_swap_89 : decode cX10_swap 89 = .ok (.iconst 0, 1) := by decide +kernel
theorem dX10_swap_90 : decode cX10_swap 90 = .ok (.invokevirtual 70, 3) := by decide +kernel
theorem dX10_swap_93 : decode cX10_swap 93 = .ok (.ireturn, 1) := by decide +kernel
theorem dX10_flipped_0 : decode cX10_flipped 0 = .ok (.new 19, 3) := by decide +kernel
theorem dX10_flipped_3 : decode cX10_flipped 3 = .ok (.dup, 1) := by decide +kernel
theorem dX10_flipped_4 : decode cX10_flipped 4 = .ok (.aload_n 0, 1) := by decide +kernel
theorem dX10_flipped_5 : decode cX10_flipped 5 = .ok (.getfield 49, 3) := by decide +kernel
theorem dX10_flipped_8 : decode cX10_flipped 8 = .ok (.aload_n 0, 1) := by decide +kernel
theorem dX10_flipped_9 : decode cX10_flipped 9 = .ok (.getfield 46, 3) := by decide +kernel
theorem dX10_flipped_12 : decode cX10_flipped 12 = .ok (.invokespecial 25, 3) := by decide +kernel
theorem dX10_flipped_15 : decode cX10_flipped 15 = .ok (.astore_n 1, 1) := by decide +kernel
theorem dX10_flipped_16 : decode cX10_flipped 16 = .ok (.iconst 0, 1) := by decide +kernel
theorem dX10_flipped_17 : decode cX10_flipped 17 = .ok (.istore_n 2, 1) := by decide +kernel
theorem dX10_flipped_18 : decode cX10_flipped 18 = .ok (.iload_n 2, 1) := by decide +kernel
theorem dX10_flipped_19 : decode cX10_flipped 19 = .ok (.aload_n 0, 1) := by decide +kernel
theorem dX10_flipped_20 : decode cX10_flipped 20 = .ok (.getfield 46, 3) := by decide +kernel
theorem dX10_flipped_23 : decode cX10_flipped 23 = .ok (.if_icmp .ge 37, 3) := by decide +kernel
theorem dX10_flipped_26 : decode cX10_flipped 26 = .ok (.iconst 0, 1) := by decide +kernel
theorem dX10_flipped_27 : decode cX10_flipped 27 = .ok (.istore_n 3, 1) := by decide +kernel
theorem dX10_flipped_28 : decode cX10_flipped 28 = .ok (.iload_n 3, 1) := by decide +kernel
theorem dX10_flipped_29 : decode cX10_flipped 29 = .ok (.aload_n 0, 1) := by decide +kernel
theorem dX10_flipped_30 : decode cX10_flipped 30 = .ok (.getfield 49, 3) := by decide +kernel
theorem dX10_flipped_33 : decode cX10_flipped 33 = .ok (.if_icmp .ge 21, 3) := by decide +kernel
theorem dX10_flipped_36 : decode cX10_flipped 36 = .ok (.aload_n 1, 1) := by decide +kernel
theorem dX10_flipped_37 : decode cX10_flipped 37 = .ok (.iload_n 3, 1) := by decide +kernel
theorem dX10_flipped_38 : decode cX10_flipped 38 = .ok (.iload_n 2, 1) := by decide +kernel
theorem dX10_flipped_39 : decode cX10_flipped 39 = .ok (.aload_n 0, 1) := by decide +kernel
theorem dX10_flipped_40 : decode cX10_flipped 40 = .ok (.iload_n 2, 1) := by decide +kernel
theorem dX10_flipped_41 : decode cX10_flipped 41 = .ok (.iload_n 3, 1) := by decide +kernel
theorem dX10_flipped_42 : decode cX10_flipped 42 = .ok (.invokevirtual 88, 3) := by decide +kernel
theorem dX10_flipped_45 : decode cX10_flipped 45 = .ok (.invokevirtual 92, 3) := by decide +kernel
theorem dX10_flipped_48 : decode cX10_flipped 48 = .ok (.iinc 3 1, 3) := by decide +kernel
theorem dX10_flipped_51 : decode cX10_flipped 51 = .ok (.goto (-23), 3) := by decide +kernel
theorem dX10_flipped_54 : decode cX10_flipped 54 = .ok (.iinc 2 1, 3) := by decide +kernel
theorem dX10_flipped_57 : decode cX10_flipped 57 = .ok (.goto (-39), 3) := by decide +kernel
theorem dX10_flipped_60 : decode cX10_flipped 60 = .ok (.aload_n 1, 1) := by decide +kernel
theorem dX10_flipped_61 : decode cX10_flipped 61 = .ok (.areturn, 1) := by decide +kernel
theorem dX10_flip_0 : decode cX10_flip 0 = .ok (.aload_n 0, 1) := by decide +kernel
theorem dX10_flip_1 : decode cX10_flip 1 = .ok (.iload_n 1, 1) := by decide +kernel
theorem dX10_flip_2 : decode cX10_flip 2 = .ok (.invokestatic 42, 3) := by decide +kernel
theorem dX10_flip_5 : decode cX10_flip 5 = .ok (.ifCond .ne 7, 3) := by decide +kernel
theorem dX10_flip_8 : decode cX10_flip 8 = .ok (.iconst 1, 1) := by decide +kernel
theorem dX10_flip_9 : decode cX10_flip 9 = .ok (.goto 4, 3) := by decide +kernel
theorem dX10_flip_12 : decode cX10_flip 12 = .ok (.iconst 0, 1) := by decide +kernel
theorem dX10_flip_13 : decode cX10_flip 13 = .ok (.invokevirtual 105, 3) := by decide +kernel
theorem dX10_flip_16 : decode cX10_flip 16 = .ok (.ifCond .eq 5, 3) := by decide +kernel
theorem dX10_flip_19 : decode cX10_flip 19 = .ok (.iconst 0, 1) := by decide +kernel
theorem dX10_flip_20 : decode cX10_flip 20 = .ok (.ireturn, 1) := by decide +kernel
theorem dX10_flip_21 : decode cX10_flip 21 = .ok (.aload_n 0, 1) := by decide +kernel
theorem dX10_flip_22 : decode cX10_flip 22 = .ok (.getfield 21, 3) := by decide +kernel
theorem dX10_flip_25 : decode cX10_flip 25 = .ok (.iload_n 1, 1) := by decide +kernel
theorem dX10_flip_26 : decode cX10_flip 26 = .ok (.aload_n 0, 1) := by decide +kernel
theorem dX10_flip_27 : decode cX10_flip 27 = .ok (.getfield 21, 3) := by decide +kernel
theorem dX10_flip_30 : decode cX10_flip 30 = .ok (.iload_n 1, 1) := by decide +kernel
theorem dX10_flip_31 : decode cX10_flip 31 = .ok (.aaload, 1) := by decide +kernel
theorem dX10_flip_32 : decode cX10_flip 32 = .ok (.invokestatic 116, 3) := by decide +kernel
theorem dX10_flip_35 : decode cX10_flip 35 = .ok (.aastore, 1) := by decide +kernel
theorem dX10_flip_36 : decode cX10_flip 36 = .ok (.aload_n 0, 1) := by decide +kernel
theorem dX10_flip_37 : decode cX10_flip 37 = .ok (.aload_n 0, 1) := by decide +kernel
theorem dX10_flip_38 : decode cX10_flip 38 = .ok (.getfield 21, 3) := by decide +kernel
theorem dX10_flip_41 : decode cX10_flip 41 = .ok (.iload_n 1, 1) := by decide +kernel
theorem dX10_flip_42 : decode cX10_flip 42 = .ok (.aaload, 1) := by decide +kernel
theorem dX10_flip_43 : decode cX10_flip 43 = .ok (.getfield 46, 3) := by decide +kernel
theorem dX10_flip_46 : decode cX10_flip 46 = .ok (.invokevirtual 70, 3) := by decide +kernel
theorem dX10_flip_49 : decode cX10_flip 49 = .ok (.ireturn, 1) := by decide +kernel
theorem dX10_changed_0 : decode cX10_changed 0 = .ok (.aload_n 2, 1) := by decide +kernel
theorem dX10_changed_1 : decode cX10_changed 1 = .ok (.aload_n 0, 1) := by decide +kernel
theorem dX10_changed_2 : decode cX10_changed 2 = .ok (.getfield 21, 3) := by decide +kernel
theorem dX10_changed_5 : decode cX10_changed 5 = .ok (.iload_n 1, 1) := by decide +kernel
theorem dX10_changed_6 : decode cX10_changed 6 = .ok (.aaload, 1) := by decide +kernel
theorem dX10_changed_7 : decode cX10_changed 7 = .ok (.invokevirtual 120, 3) := by decide +kernel
theorem dX10_changed_10 : decode cX10_changed 10 = .ok (.istore_n 3, 1) := by decide +kernel
theorem dX10_changed_11 : decode cX10_changed 11 = .ok (.aload_n 0, 1) := by decide +kernel
theorem dX10_changed_12 : decode cX10_changed 12 = .ok (.getfield 21, 3) := by decide +kernel
theorem dX10_changed_15 : decode cX10_changed 15 = .ok (.iload_n 1, 1) := by decide +kernel
theorem dX10_changed_16 : decode cX10_changed 16 = .ok (.aload_n 2, 1) := by decide +kernel
theorem dX10_changed_17 : decode cX10_changed 17 = .ok (.aastore, 1) := by decide +kernel
theorem dX10_changed_18 : decode cX10_changed 18 = .ok (.aload_n 0, 1) := by decide +kernel
theorem dX10_changed_19 : decode cX10_changed 19 = .ok (.iload_n 3, 1) := by decide +kernel
theorem dX10_changed_20 : decode cX10_changed 20 = .ok (.invokevirtual 70, 3) := by decide +kernel
theorem dX10_changed_23 : decode cX10_changed 23 = .ok (.ireturn, 1) := by decide +kernel
theorem dX10_exchange_0 : decode cX10_exchange 0 = .ok (.aload_n 0, 1) := by decide +kernel
theorem dX10_exchange_1 : decode cX10_exchange 1 = .ok (.aload_n 0, 1) := by decide +kernel
theorem dX10_exchange_2 : decode cX10_exchange 2 = .ok (.iload_n 1, 1) := by decide +kernel
theorem dX10_exchange_3 : decode cX10_exchange 3 = .ok (.iload_n 2, 1) := by decide +kernel
theorem dX10_exchange_4 : decode cX10_exchange 4 = .ok (.iload_n 3, 1) := by decide +kernel
theorem dX10_exchange_5 : decode cX10_exchange 5 = .ok (.invokevirtual 124, 3) := by decide +kernel
theorem dX10_exchange_8 : decode cX10_exchange 8 = .ok (.ifCond .eq 14, 3) := by decide +kernel
theorem dX10_exchange_11 : decode cX10_exchange 11 = .ok (.aload_n 0, 1) := by decide +kernel
theorem dX10_exchange_12 : decode cX10_exchange 12 = .ok (.iload_n 1, 1) := by decide +kernel
theorem dX10_exchange_13 : decode cX10_exchange 13 = .ok (.iload_n 2, 1) := by decide +kernel
theorem dX10_exchange_14 : decode cX10_exchange 14 = .ok (.iload 4, 2) := by decide +kernel
theorem dX10_exchange_16 : decode cX10_exchange 16 = .ok (.invokevirtual 124, 3) := by decide +kernel
theorem dX10_exchange_19 : decode cX10_exchange 19 = .ok (.ifCond .ne 7, 3) := by decide +kernel
theorem dX10_exchange_22 : decode cX10_exchange 22 = .ok (.iconst 1, 1) := by decide +kernel
theorem dX10_exchange_23 : decode cX10_exchange 23 = .ok (.goto 4, 3) := by decide +kernel
theorem dX10_exchange_26 : decode cX10_exchange 26 = .ok (.iconst 0, 1) := by decide +kernel
theorem dX10_exchange_27 : decode cX10_exchange 27 = .ok (.invokevirtual 105, 3) := by decide +kernel
theorem dX10_exchange_30 : decode cX10_exchange 30 = .ok (.ifCond .eq 5, 3) := by decide +kernel
theorem dX10_exchange_33 : decode cX10_exchange 33 = .ok (.iconst 0, 1) := by decide +kernel
theorem dX10_exchange_34 : decode cX10_exchange 34 = .ok (.ireturn, 1) := by decide +kernel
theorem dX10_exchange_35 : decode cX10_exchange 35 = .ok (.aload_n 0, 1) := by decide +kernel
theorem dX10_exchange_36 : decode cX10_exchange 36 = .ok (.getfield 21, 3) := by decide +kernel
theorem dX10_exchange_39 : decode cX10_exchange 39 = .ok (.iload_n 1, 1) := by decide +kernel
theorem dX10_exchange_40 : decode cX10_exchange 40 = .ok (.aaload, 1) := by decide +kernel
theorem dX10_exchange_41 : decode cX10_exchange 41 = .ok (.invokevirtual 112, 3) := by decide +kernel
theorem dX10_exchange_44 : decode cX10_exchange 44 = .ok (.astore 5, 2) := by decide +kernel
theorem dX10_exchange_46 : decode cX10_exchange 46 = .ok (.iload_n 2, 1) := by decide +kernel
theorem dX10_exchange_47 : decode cX10_exchange 47 = .ok (.ifCond .eq 14, 3) := by decide +kernel
theorem dX10_exchange_50 : decode cX10_exchange 50 = .ok (.aload 5, 2) := by decide +kernel
theorem dX10_exchange_52 : decode cX10_exchange 52 = .ok (.iload_n 3, 1) := by decide +kernel
theorem dX10_exchange_53 : decode cX10_exchange 53 = .ok (.iload 4, 2) := by decide +kernel
theorem dX10_exchange_55 : decode cX10_exchange 55 = .ok (.invokevirtual 128, 3) := by decide +kernel
theorem dX10_exchange_58 : decode cX10_exchange 58 = .ok (.goto 11, 3) := by decide +kernel
theorem dX10_exchange_61 : decode cX10_exchange 61 = .ok (.aload 5, 2) := by decide +kernel
theorem dX10_exchange_63 : decode cX10_exchange 63 = .ok (.iload_n 3, 1) := by decide +kernel
theorem dX10_exchange_64 : decode cX10_exchange 64 = .ok (.iload 4, 2) := by decide +kernel
theorem dX10_exchange_66 : decode cX10_exchange 66 = .ok (.invokevirtual 131, 3) := by decide +kernel
theorem dX10_exchange_69 : decode cX10_exchange 69 = .ok (.aload_n 0, 1) := by decide +kernel
theorem dX10_exchange_70 : decode cX10_exchange 70 = .ok (.iload_n 1, 1) := by decide +kernel
theorem dX10_exchange_71 : decode cX10_exchange 71 = .ok (.aload 5, 2) := by decide +kernel
theorem dX10_exchange_73 : decode cX10_exchange 73 = .ok (.invokevirtual 134, 3) := by decide +kernel
theorem dX10_exchange_76 : decode cX10_exchange 76 = .ok (.ireturn, 1) := by decide +kernel
theorem dX10_turn_0 : decode cX10_turn 0 = .ok (.aload_n 0, 1) := by decide +kernel
theorem dX10_turn_1 : decode cX10_turn 1 = .ok (.aload_n 0, 1) := by decide +kernel
theorem dX10_turn_2 : decode cX10_turn 2 = .ok (.iload_n 1, 1) := by decide +kernel
theorem dX10_turn_3 : decode cX10_turn 3 = .ok (.iload_n 2, 1) := by decide +kernel
theorem dX10_turn_4 : decode cX10_turn 4 = .ok (.iload_n 3, 1) := by decide +kernel
theorem dX10_turn_5 : decode cX10_turn 5 = .ok (.invokevirtual 124, 3) := by decide +kernel
theorem dX10_turn_8 : decode cX10_turn 8 = .ok (.ifCond .ne 7, 3) := by decide +kernel
theorem dX10_turn_11 : decode cX10_turn 11 = .ok (.iconst 1, 1) := by decide +kernel
theorem dX10_turn_12 : decode cX10_turn 12 = .ok (.goto 4, 3) := by decide +kernel
theorem dX10_turn_15 : decode cX10_turn 15 = .ok (.iconst 0, 1) := by decide +kernel
theorem dX10_turn_16 : decode cX10_turn 16 = .ok (.invokevirtual 105, 3) := by decide +kernel
theorem dX10_turn_19 : decode cX10_turn 19 = .ok (.ifCond .eq 5, 3) := by decide +kernel
theorem dX10_turn_22 : decode cX10_turn 22 = .ok (.iconst 0, 1) := by decide +kernel
theorem dX10_turn_23 : decode cX10_turn 23 = .ok (.ireturn, 1) := by decide +kernel
theorem dX10_turn_24 : decode cX10_turn 24 = .ok (.aload_n 0, 1) := by decide +kernel
theorem dX10_turn_25 : decode cX10_turn 25 = .ok (.getfield 21, 3) := by decide +kernel
theorem dX10_turn_28 : decode cX10_turn 28 = .ok (.iload_n 1, 1) := by decide +kernel
theorem dX10_turn_29 : decode cX10_turn 29 = .ok (.aaload, 1) := by decide +kernel
theorem dX10_turn_30 : decode cX10_turn 30 = .ok (.invokevirtual 112, 3) := by decide +kernel
theorem dX10_turn_33 : decode cX10_turn 33 = .ok (.astore 4, 2) := by decide +kernel
theorem dX10_turn_35 : decode cX10_turn 35 = .ok (.iload_n 2, 1) := by decide +kernel
theorem dX10_turn_36 : decode cX10_turn 36 = .ok (.ifCond .eq 42, 3) := by decide +kernel
theorem dX10_turn_39 : decode cX10_turn 39 = .ok (.iconst 0, 1) := by decide +kernel
theorem dX10_turn_40 : decode cX10_turn 40 = .ok (.istore 5, 2) := by decide +kernel
theorem dX10_turn_42 : decode cX10_turn 42 = .ok (.iload 5, 2) := by decide +kernel
theorem dX10_turn_44 : decode cX10_turn 44 = .ok (.aload 4, 2) := by decide +kernel
theorem dX10_turn_46 : decode cX10_turn 46 = .ok (.getfield 46, 3) := by decide +kernel
theorem dX10_turn_49 : decode cX10_turn 49 = .ok (.if_icmp .ge 26, 3) := by decide +kernel
theorem dX10_turn_52 : decode cX10_turn 52 = .ok (.aload 4, 2) := by decide +kernel
theorem dX10_turn_54 : decode cX10_turn 54 = .ok (.iload 5, 2) := by decide +kernel
theorem dX10_turn_56 : decode cX10_turn 56 = .ok (.iload_n 3, 1) := by decide +kernel
theorem dX10_turn_57 : decode cX10_turn 57 = .ok (.aload 4, 2) := by decide +kernel
theorem dX10_turn_59 : decode cX10_turn 59 = .ok (.iload 5, 2) := by decide +kernel
theorem dX10_turn_61 : decode cX10_turn 61 = .ok (.iload_n 3, 1) := by decide +kernel
theorem dX10_turn_62 : decode cX10_turn 62 = .ok (.invokevirtual 88, 3) := by decide +kernel
theorem dX10_turn_65 : decode cX10_turn 65 = .ok (.lneg, 1) := by decide +kernel
theorem dX10_turn_66 : decode cX10_turn 66 = .ok (.invokevirtual 92, 3) := by decide +kernel
theorem dX10_turn_69 : decode cX10_turn 69 = .ok (.iinc 5 1, 3) := by decide +kernel
theorem dX10_turn_72 : decode cX10_turn 72 = .ok (.goto (-30), 3) := by decide +kernel
theorem dX10_turn_75 : decode cX10_turn 75 = .ok (.goto 9, 3) := by decide +kernel
theorem dX10_turn_78 : decode cX10_turn 78 = .ok (.aload 4, 2) := by decide +kernel
theorem dX10_turn_80 : decode cX10_turn 80 = .ok (.iload_n 3, 1) := by decide +kernel
theorem dX10_turn_81 : decode cX10_turn 81 = .ok (.invokevirtual 137, 3) := by decide +kernel
theorem dX10_turn_84 : decode cX10_turn 84 = .ok (.aload_n 0, 1) := by decide +kernel
theorem dX10_turn_85 : decode cX10_turn 85 = .ok (.iload_n 1, 1) := by decide +kernel
theorem dX10_turn_86 : decode cX10_turn 86 = .ok (.aload 4, 2) := by decide +kernel
theorem dX10_turn_88 : decode cX10_turn 88 = .ok (.invokevirtual 134, 3) := by decide +kernel
theorem dX10_turn_91 : decode cX10_turn 91 = .ok (.ireturn, 1) := by decide +kernel
theorem dX10_add_0 : decode cX10_add 0 = .ok (.aload_n 0, 1) := by decide +kernel
theorem dX10_add_1 : decode cX10_add 1 = .ok (.aload_n 0, 1) := by decide +kernel
theorem dX10_add_2 : decode cX10_add 2 = .ok (.iload_n 1, 1) := by decide +kernel
theorem dX10_add_3 : decode cX10_add 3 = .ok (.iload_n 2, 1) := by decide +kernel
theorem dX10_add_4 : decode cX10_add 4 = .ok (.iload_n 3, 1) := by decide +kernel
theorem dX10_add_5 : decode cX10_add 5 = .ok (.invokevirtual 124, 3) := by decide +kernel
theorem dX10_add_8 : decode cX10_add 8 = .ok (.ifCond .eq 14, 3) := by decide +kernel
theorem dX10_add_11 : decode cX10_add 11 = .ok (.aload_n 0, 1) := by decide +kernel
theorem dX10_add_12 : decode cX10_add 12 = .ok (.iload_n 1, 1) := by decide +kernel
theorem dX10_add_13 : decode cX10_add 13 = .ok (.iload_n 2, 1) := by decide +kernel
theorem dX10_add_14 : decode cX10_add 14 = .ok (.iload 4, 2) := by decide +kernel
theorem dX10_add_16 : decode cX10_add 16 = .ok (.invokevirtual 124, 3) := by decide +kernel
theorem dX10_add_19 : decode cX10_add 19 = .ok (.ifCond .ne 7, 3) := by decide +kernel
theorem dX10_add_22 : decode cX10_add 22 = .ok (.iconst 1, 1) := by decide +kernel
theorem dX10_add_23 : decode cX10_add 23 = .ok (.goto 4, 3) := by decide +kernel
theorem dX10_add_26 : decode cX10_add 26 = .ok (.iconst 0, 1) := by decide +kernel
theorem dX10_add_27 : decode cX10_add 27 = .ok (.iload_n 3, 1) := by decide +kernel
theorem dX10_add_28 : decode cX10_add 28 = .ok (.iload 4, 2) := by decide +kernel
theorem dX10_add_30 : decode cX10_add 30 = .ok (.if_icmp .eq 17, 3) := by decide +kernel
theorem dX10_add_33 : decode cX10_add 33 = .ok (.iload 5, 2) := by decide +kernel
theorem dX10_add_35 : decode cX10_add 35 = .ok (.bipush (-20), 2) := by decide +kernel
theorem dX10_add_37 : decode cX10_add 37 = .ok (.if_icmp .lt 10, 3) := by decide +kernel
theorem dX10_add_40 : decode cX10_add 40 = .ok (.iload 5, 2) := by decide +kernel
theorem dX10_add_42 : decode cX10_add 42 = .ok (.bipush 20, 2) := by decide +kernel
theorem dX10_add_44 : decode cX10_add 44 = .ok (.if_icmp .le 7, 3) := by decide +kernel
theorem dX10_add_47 : decode cX10_add 47 = .ok (.iconst 1, 1) := by decide +kernel
theorem dX10_add_48 : decode cX10_add 48 = .ok (.goto 4, 3) := by decide +kernel
theorem dX10_add_51 : decode cX10_add 51 = .ok (.iconst 0, 1) := by decide +kernel
theorem dX10_add_52 : decode cX10_add 52 = .ok (.invokevirtual 77, 3) := by decide +kernel
theorem dX10_add_55 : decode cX10_add 55 = .ok (.ifCond .eq 5, 3) := by decide +kernel
theorem dX10_add_58 : decode cX10_add 58 = .ok (.iconst 0, 1) := by decide +kernel
theorem dX10_add_59 : decode cX10_add 59 = .ok (.ireturn, 1) := by decide +kernel
theorem dX10_add_60 : decode cX10_add 60 = .ok (.aload_n 0, 1) := by decide +kernel
theorem dX10_add_61 : decode cX10_add 61 = .ok (.getfield 21, 3) := by decide +kernel
theorem dX10_add_64 : decode cX10_add 64 = .ok (.iload_n 1, 1) := by decide +kernel
theorem dX10_add_65 : decode cX10_add 65 = .ok (.aaload, 1) := by decide +kernel
theorem dX10_add_66 : decode cX10_add 66 = .ok (.invokevirtual 112, 3) := by decide +kernel
theorem dX10_add_69 : decode cX10_add 69 = .ok (.astore 6, 2) := by decide +kernel
theorem dX10_add_71 : decode cX10_add 71 = .ok (.iload_n 2, 1) := by decide +kernel
theorem dX10_add_72 : decode cX10_add 72 = .ok (.ifCond .eq 17, 3) := by decide +kernel
theorem dX10_add_75 : decode cX10_add 75 = .ok (.aload 6, 2) := by decide +kernel
theorem dX10_add_77 : decode cX10_add 77 = .ok (.iload_n 3, 1) := by decide +kernel
theorem dX10_add_78 : decode cX10_add 78 = .ok (.iload 4, 2) := by decide +kernel
theorem dX10_add_80 : decode cX10_add 80 = .ok (.iload 5, 2) := by decide +kernel
theorem dX10_add_82 : decode cX10_add 82 = .ok (.i2l, 1) := by decide +kernel
theorem dX10_add_83 : decode cX10_add 83 = .ok (.invokevirtual 141, 3) := by decide +kernel
theorem dX10_add_86 : decode cX10_add 86 = .ok (.goto 14, 3) := by decide +kernel
theorem dX10_add_89 : decode cX10_add 89 = .ok (.aload 6, 2) := by decide +kernel
theorem dX10_add_91 : decode cX10_add 91 = .ok (.iload_n 3, 1) := by decide +kernel
theorem dX10_add_92 : decode cX10_add 92 = .ok (.iload 4, 2) := by decide +kernel
theorem dX10_add_94 : decode cX10_add 94 = .ok (.iload 5, 2) := by decide +kernel
theorem dX10_add_96 : decode cX10_add 96 = .ok (.i2l, 1) := by decide +kernel
theorem dX10_add_97 : decode cX10_add 97 = .ok (.invokevirtual 144, 3) := by decide +kernel
theorem dX10_add_100 : decode cX10_add 100 = .ok (.aload 6, 2) := by decide +kernel
theorem dX10_add_102 : decode cX10_add 102 = .ok (.invokevirtual 59, 3) := by decide +kernel
theorem dX10_add_105 : decode cX10_add 105 = .ok (.ifCond .eq 13, 3) := by decide +kernel
theorem dX10_add_108 : decode cX10_add 108 = .ok (.aload_n 0, 1) := by decide +kernel
theorem dX10_add_109 : decode cX10_add 109 = .ok (.iload_n 1, 1) := by decide +kernel
theorem dX10_add_110 : decode cX10_add 110 = .ok (.aload 6, 2) := by decide +kernel
theorem dX10_add_112 : decode cX10_add 112 = .ok (.invokevirtual 134, 3) := by decide +kernel
theorem dX10_add_115 : decode cX10_add 115 = .ok (.goto 7, 3) := by decide +kernel
theorem dX10_add_118 : decode cX10_add 118 = .ok (.aload_n 0, 1) := by decide +kernel
theorem dX10_add_119 : decode cX10_add 119 = .ok (.invokevirtual 63, 3) := by decide +kernel
theorem dX10_add_122 : decode cX10_add 122 = .ok (.ireturn, 1) := by decide +kernel
theorem dX10_shaped_0 : decode cX10_shaped 0 = .ok (.new 19, 3) := by decide +kernel
theorem dX10_shaped_3 : decode cX10_shaped 3 = .ok (.dup, 1) := by decide +kernel
theorem dX10_shaped_4 : decode cX10_shaped 4 = .ok (.iload_n 1, 1) := by decide +kernel
theorem dX10_shaped_5 : decode cX10_shaped 5 = .ok (.iload_n 2, 1) := by decide +kernel
theorem dX10_shaped_6 : decode cX10_shaped 6 = .ok (.invokespecial 25, 3) := by decide +kernel
theorem dX10_shaped_9 : decode cX10_shaped 9 = .ok (.astore 5, 2) := by decide +kernel
theorem dX10_shaped_11 : decode cX10_shaped 11 = .ok (.iconst 0, 1) := by decide +kernel
theorem dX10_shaped_12 : decode cX10_shaped 12 = .ok (.istore 6, 2) := by decide +kernel
theorem dX10_shaped_14 : decode cX10_shaped 14 = .ok (.iload 6, 2) := by decide +kernel
theorem dX10_shaped_16 : decode cX10_shaped 16 = .ok (.iload_n 1, 1) := by decide +kernel
theorem dX10_shaped_17 : decode cX10_shaped 17 = .ok (.if_icmp .ge 94, 3) := by decide +kernel
theorem dX10_shaped_20 : decode cX10_shaped 20 = .ok (.iconst 0, 1) := by decide +kernel
theorem dX10_shaped_21 : decode cX10_shaped 21 = .ok (.istore 7, 2) := by decide +kernel
theorem dX10_shaped_23 : decode cX10_shaped 23 = .ok (.iload 7, 2) := by decide +kernel
theorem dX10_shaped_25 : decode cX10_shaped 25 = .ok (.iload_n 2, 1) := by decide +kernel
theorem dX10_shaped_26 : decode cX10_shaped 26 = .ok (.if_icmp .ge 79, 3) := by decide +kernel
theorem dX10_shaped_29 : decode cX10_shaped 29 = .ok (.iload 6, 2) := by decide +kernel
theorem dX10_shaped_31 : decode cX10_shaped 31 = .ok (.iload_n 3, 1) := by decide +kernel
theorem dX10_shaped_32 : decode cX10_shaped 32 = .ok (.if_icmp .ge 8, 3) := by decide +kernel
theorem dX10_shaped_35 : decode cX10_shaped 35 = .ok (.iload 6, 2) := by decide +kernel
theorem dX10_shaped_37 : decode cX10_shaped 37 = .ok (.goto 7, 3) := by decide +kernel
theorem dX10_shaped_40 : decode cX10_shaped 40 = .ok (.iload 6, 2) := by decide +kernel
theorem dX10_shaped_42 : decode cX10_shaped 42 = .ok (.iconst 1, 1) := by decide +kernel
theorem dX10_shaped_43 : decode cX10_shaped 43 = .ok (.iadd, 1) := by decide +kernel
theorem dX10_shaped_44 : decode cX10_shaped 44 = .ok (.istore 8, 2) := by decide +kernel
theorem dX10_shaped_46 : decode cX10_shaped 46 = .ok (.iload 7, 2) := by decide +kernel
theorem dX10_shaped_48 : decode cX10_shaped 48 = .ok (.iload 4, 2) := by decide +kernel
theorem dX10_shaped_50 : decode cX10_shaped 50 = .ok (.if_icmp .ge 8, 3) := by decide +kernel
theorem dX10_shaped_53 : decode cX10_shaped 53 = .ok (.iload 7, 2) := by decide +kernel
theorem dX10_shaped_55 : decode cX10_shaped 55 = .ok (.goto 7, 3) := by decide +kernel
theorem dX10_shaped_58 : decode cX10_shaped 58 = .ok (.iload 7, 2) := by decide +kernel
theorem dX10_shaped_60 : decode cX10_shaped 60 = .ok (.iconst 1, 1) := by decide +kernel
theorem dX10_shaped_61 : decode cX10_shaped 61 = .ok (.iadd, 1) := by decide +kernel
theorem dX10_shaped_62 : decode cX10_shaped 62 = .ok (.istore 9, 2) := by decide +kernel
theorem dX10_shaped_64 : decode cX10_shaped 64 = .ok (.iload 8, 2) := by decide +kernel
theorem dX10_shaped_66 : decode cX10_shaped 66 = .ok (.aload_n 0, 1) := by decide +kernel
theorem dX10_shaped_67 : decode cX10_shaped 67 = .ok (.getfield 46, 3) := by decide +kernel
theorem dX10_shaped_70 : decode cX10_shaped 70 = .ok (.if_icmp .ge 29, 3) := by decide +kernel
theorem dX10_shaped_73 : decode cX10_shaped 73 = .ok (.iload 9, 2) := by decide +kernel
theorem dX10_shaped_75 : decode cX10_shaped 75 = .ok (.aload_n 0, 1) := by decide +kernel
theorem dX10_shaped_76 : decode cX10_shaped 76 = .ok (.getfield 49, 3) := by decide +kernel
theorem dX10_shaped_79 : decode cX10_shaped 79 = .ok (.if_icmp .ge 20, 3) := by decide +kernel
theorem dX10_shaped_82 : decode cX10_shaped 82 = .ok (.aload 5, 2) := by decide +kernel
theorem dX10_shaped_84 : decode cX10_shaped 84 = .ok (.iload 6, 2) := by decide +kernel
theorem dX10_shaped_86 : decode cX10_shaped 86 = .ok (.iload 7, 2) := by decide +kernel
theorem dX10_shaped_88 : decode cX10_shaped 88 = .ok (.aload_n 0, 1) := by decide +kernel
theorem dX10_shaped_89 : decode cX10_shaped 89 = .ok (.iload 8, 2) := by decide +kernel
theorem dX10_shaped_91 : decode cX10_shaped 91 = .ok (.iload 9, 2) := by decide +kernel
theorem dX10_shaped_93 : decode cX10_shaped 93 = .ok (.invokevirtual 88, 3) := by decide +kernel
theorem dX10_shaped_96 : decode cX10_shaped 96 = .ok (.invokevirtual 92, 3) := by decide +kernel
theorem dX10_shaped_99 : decode cX10_shaped 99 = .ok (.iinc 7 1, 3) := by decide +kernel
theorem dX10_shaped_102 : decode cX10_shaped 102 = .ok (.goto (-79), 3) := by decide +kernel
theorem dX10_shaped_105 : decode cX10_shaped 105 = .ok (.iinc 6 1, 3) := by decide +kernel
theorem dX10_shaped_108 : decode cX10_shaped 108 = .ok (.goto (-94), 3) := by decide +kernel
theorem dX10_shaped_111 : decode cX10_shaped 111 = .ok (.aload 5, 2) := by decide +kernel
theorem dX10_shaped_113 : decode cX10_shaped 113 = .ok (.areturn, 1) := by decide +kernel
theorem dX10_widen_0 : decode cX10_widen 0 = .ok (.aload_n 0, 1) := by decide +kernel
theorem dX10_widen_1 : decode cX10_widen 1 = .ok (.iload_n 1, 1) := by decide +kernel
theorem dX10_widen_2 : decode cX10_widen 2 = .ok (.invokestatic 42, 3) := by decide +kernel
theorem dX10_widen_5 : decode cX10_widen 5 = .ok (.ifCond .ne 7, 3) := by decide +kernel
theorem dX10_widen_8 : decode cX10_widen 8 = .ok (.iconst 1, 1) := by decide +kernel
theorem dX10_widen_9 : decode cX10_widen 9 = .ok (.goto 4, 3) := by decide +kernel
theorem dX10_widen_12 : decode cX10_widen 12 = .ok (.iconst 0, 1) := by decide +kernel
theorem dX10_widen_13 : decode cX10_widen 13 = .ok (.invokevirtual 105, 3) := by decide +kernel
theorem dX10_widen_16 : decode cX10_widen 16 = .ok (.ifCond .eq 5, 3) := by decide +kernel
theorem dX10_widen_19 : decode cX10_widen 19 = .ok (.iconst 0, 1) := by decide +kernel
theorem dX10_widen_20 : decode cX10_widen 20 = .ok (.ireturn, 1) := by decide +kernel
theorem dX10_widen_21 : decode cX10_widen 21 = .ok (.aload_n 0, 1) := by decide +kernel
theorem dX10_widen_22 : decode cX10_widen 22 = .ok (.getfield 21, 3) := by decide +kernel
theorem dX10_widen_25 : decode cX10_widen 25 = .ok (.iload_n 1, 1) := by decide +kernel
theorem dX10_widen_26 : decode cX10_widen 26 = .ok (.aaload, 1) := by decide +kernel
theorem dX10_widen_27 : decode cX10_widen 27 = .ok (.astore_n 3, 1) := by decide +kernel
theorem dX10_widen_28 : decode cX10_widen 28 = .ok (.iload_n 2, 1) := by decide +kernel
theorem dX10_widen_29 : decode cX10_widen 29 = .ok (.ifCond .eq 10, 3) := by decide +kernel
theorem dX10_widen_32 : decode cX10_widen 32 = .ok (.aload_n 3, 1) := by decide +kernel
theorem dX10_widen_33 : decode cX10_widen 33 = .ok (.getfield 49, 3) := by decide +kernel
theorem dX10_widen_36 : decode cX10_widen 36 = .ok (.goto 7, 3) := by decide +kernel
theorem dX10_widen_39 : decode cX10_widen 39 = .ok (.aload_n 3, 1) := by decide +kernel
theorem dX10_widen_40 : decode cX10_widen 40 = .ok (.getfield 46, 3) := by decide +kernel
theorem dX10_widen_43 : decode cX10_widen 43 = .ok (.iconst 1, 1) := by decide +kernel
theorem dX10_widen_44 : decode cX10_widen 44 = .ok (.iadd, 1) := by decide +kernel
theorem dX10_widen_45 : decode cX10_widen 45 = .ok (.istore 4, 2) := by decide +kernel
theorem dX10_widen_47 : decode cX10_widen 47 = .ok (.iload 4, 2) := by decide +kernel
theorem dX10_widen_49 : decode cX10_widen 49 = .ok (.iconst 4, 1) := by decide +kernel
theorem dX10_widen_50 : decode cX10_widen 50 = .ok (.if_icmp .le 8, 3) := by decide +kernel
theorem dX10_widen_53 : decode cX10_widen 53 = .ok (.aload_n 0, 1) := by decide +kernel
theorem dX10_widen_54 : decode cX10_widen 54 = .ok (.invokevirtual 63, 3) := by decide +kernel
theorem dX10_widen_57 : decode cX10_widen 57 = .ok (.ireturn, 1) := by decide +kernel
theorem dX10_widen_58 : decode cX10_widen 58 = .ok (.aload_n 0, 1) := by decide +kernel
theorem dX10_widen_59 : decode cX10_widen 59 = .ok (.getfield 21, 3) := by decide +kernel
theorem dX10_widen_62 : decode cX10_widen 62 = .ok (.iload_n 1, 1) := by decide +kernel
theorem dX10_widen_63 : decode cX10_widen 63 = .ok (.aload_n 3, 1) := by decide +kernel
theorem dX10_widen_64 : decode cX10_widen 64 = .ok (.iload_n 2, 1) := by decide +kernel
theorem dX10_widen_65 : decode cX10_widen 65 = .ok (.ifCond .eq 10, 3) := by decide +kernel
theorem dX10_widen_68 : decode cX10_widen 68 = .ok (.aload_n 3, 1) := by decide +kernel
theorem dX10_widen_69 : decode cX10_widen 69 = .ok (.getfield 46, 3) := by decide +kernel
theorem dX10_widen_72 : decode cX10_widen 72 = .ok (.goto 5, 3) := by decide +kernel
theorem dX10_widen_75 : decode cX10_widen 75 = .ok (.iload 4, 2) := by decide +kernel
theorem dX10_widen_77 : decode cX10_widen 77 = .ok (.iload_n 2, 1) := by decide +kernel
theorem dX10_widen_78 : decode cX10_widen 78 = .ok (.ifCond .eq 8, 3) := by decide +kernel
theorem dX10_widen_81 : decode cX10_widen 81 = .ok (.iload 4, 2) := by decide +kernel
theorem dX10_widen_83 : decode cX10_widen 83 = .ok (.goto 7, 3) := by decide +kernel
theorem dX10_widen_86 : decode cX10_widen 86 = .ok (.aload_n 3, 1) := by decide +kernel
theorem dX10_widen_87 : decode cX10_widen 87 = .ok (.getfield 49, 3) := by decide +kernel
theorem dX10_widen_90 : decode cX10_widen 90 = .ok (.bipush 9, 2) := by decide +kernel
theorem dX10_widen_92 : decode cX10_widen 92 = .ok (.bipush 9, 2) := by decide +kernel
theorem dX10_widen_94 : decode cX10_widen 94 = .ok (.invokestatic 147, 3) := by decide +kernel
theorem dX10_widen_97 : decode cX10_widen 97 = .ok (.aastore, 1) := by decide +kernel
theorem dX10_widen_98 : decode cX10_widen 98 = .ok (.aload_n 0, 1) := by decide +kernel
theorem dX10_widen_99 : decode cX10_widen 99 = .ok (.iload 4, 2) := by decide +kernel
theorem dX10_widen_101 : decode cX10_widen 101 = .ok (.invokevirtual 70, 3) := by decide +kernel
theorem dX10_widen_104 : decode cX10_widen 104 = .ok (.ireturn, 1) := by decide +kernel
theorem dX10_drop_0 : decode cX10_drop 0 = .ok (.aload_n 0, 1) := by decide +kernel
theorem dX10_drop_1 : decode cX10_drop 1 = .ok (.aload_n 0, 1) := by decide +kernel
theorem dX10_drop_2 : decode cX10_drop 2 = .ok (.iload_n 1, 1) := by decide +kernel
theorem dX10_drop_3 : decode cX10_drop 3 = .ok (.iload_n 2, 1) := by decide +kernel
theorem dX10_drop_4 : decode cX10_drop 4 = .ok (.iload_n 3, 1) := by decide +kernel
theorem dX10_drop_5 : decode cX10_drop 5 = .ok (.invokevirtual 124, 3) := by decide +kernel
theorem dX10_drop_8 : decode cX10_drop 8 = .ok (.ifCond .ne 7, 3) := by decide +kernel
theorem dX10_drop_11 : decode cX10_drop 11 = .ok (.iconst 1, 1) := by decide +kernel
theorem dX10_drop_12 : decode cX10_drop 12 = .ok (.goto 4, 3) := by decide +kernel
theorem dX10_drop_15 : decode cX10_drop 15 = .ok (.iconst 0, 1) := by decide +kernel
theorem dX10_drop_16 : decode cX10_drop 16 = .ok (.invokevirtual 105, 3) := by decide +kernel
theorem dX10_drop_19 : decode cX10_drop 19 = .ok (.ifCond .eq 5, 3) := by decide +kernel
theorem dX10_drop_22 : decode cX10_drop 22 = .ok (.iconst 0, 1) := by decide +kernel
theorem dX10_drop_23 : decode cX10_drop 23 = .ok (.ireturn, 1) := by decide +kernel
theorem dX10_drop_24 : decode cX10_drop 24 = .ok (.aload_n 0, 1) := by decide +kernel
theorem dX10_drop_25 : decode cX10_drop 25 = .ok (.getfield 21, 3) := by decide +kernel
theorem dX10_drop_28 : decode cX10_drop 28 = .ok (.iload_n 1, 1) := by decide +kernel
theorem dX10_drop_29 : decode cX10_drop 29 = .ok (.aaload, 1) := by decide +kernel
theorem dX10_drop_30 : decode cX10_drop 30 = .ok (.astore 4, 2) := by decide +kernel
theorem dX10_drop_32 : decode cX10_drop 32 = .ok (.iload_n 2, 1) := by decide +kernel
theorem dX10_drop_33 : decode cX10_drop 33 = .ok (.ifCond .eq 11, 3) := by decide +kernel
theorem dX10_drop_36 : decode cX10_drop 36 = .ok (.aload 4, 2) := by decide +kernel
theorem dX10_drop_38 : decode cX10_drop 38 = .ok (.getfield 49, 3) := by decide +kernel
theorem dX10_drop_41 : decode cX10_drop 41 = .ok (.goto 8, 3) := by decide +kernel
theorem dX10_drop_44 : decode cX10_drop 44 = .ok (.aload 4, 2) := by decide +kernel
theorem dX10_drop_46 : decode cX10_drop 46 = .ok (.getfield 46, 3) := by decide +kernel
theorem dX10_drop_49 : decode cX10_drop 49 = .ok (.iconst 1, 1) := by decide +kernel
theorem dX10_drop_50 : decode cX10_drop 50 = .ok (.isub, 1) := by decide +kernel
theorem dX10_drop_51 : decode cX10_drop 51 = .ok (.istore 5, 2) := by decide +kernel
theorem dX10_drop_53 : decode cX10_drop 53 = .ok (.iload 5, 2) := by decide +kernel
theorem dX10_drop_55 : decode cX10_drop 55 = .ok (.ifCond .ne 8, 3) := by decide +kernel
theorem dX10_drop_58 : decode cX10_drop 58 = .ok (.aload_n 0, 1) := by decide +kernel
theorem dX10_drop_59 : decode cX10_drop 59 = .ok (.invokevirtual 63, 3) := by decide +kernel
theorem dX10_drop_62 : decode cX10_drop 62 = .ok (.ireturn, 1) := by decide +kernel
theorem dX10_drop_63 : decode cX10_drop 63 = .ok (.aload_n 0, 1) := by decide +kernel
theorem dX10_drop_64 : decode cX10_drop 64 = .ok (.getfield 21, 3) := by decide +kernel
theorem dX10_drop_67 : decode cX10_drop 67 = .ok (.iload_n 1, 1) := by decide +kernel
theorem dX10_drop_68 : decode cX10_drop 68 = .ok (.aload 4, 2) := by decide +kernel
theorem dX10_drop_70 : decode cX10_drop 70 = .ok (.iload_n 2, 1) := by decide +kernel
theorem dX10_drop_71 : decode cX10_drop 71 = .ok (.ifCond .eq 11, 3) := by decide +kernel
theorem dX10_drop_74 : decode cX10_drop 74 = .ok (.aload 4, 2) := by decide +kernel
theorem dX10_drop_76 : decode cX10_drop 76 = .ok (.getfield 46, 3) := by decide +kernel
theorem dX10_drop_79 : decode cX10_drop 79 = .ok (.goto 5, 3) := by decide +kernel
theorem dX10_drop_82 : decode cX10_drop 82 = .ok (.iload 5, 2) := by decide +kernel
theorem dX10_drop_84 : decode cX10_drop 84 = .ok (.iload_n 2, 1) := by decide +kernel
theorem dX10_drop_85 : decode cX10_drop 85 = .ok (.ifCond .eq 8, 3) := by decide +kernel
theorem dX10_drop_88 : decode cX10_drop 88 = .ok (.iload 5, 2) := by decide +kernel
theorem dX10_drop_90 : decode cX10_drop 90 = .ok (.goto 8, 3) := by decide +kernel
theorem dX10_drop_93 : decode cX10_drop 93 = .ok (.aload 4, 2) := by decide +kernel
theorem dX10_drop_95 : decode cX10_drop 95 = .ok (.getfield 49, 3) := by decide +kernel
theorem dX10_drop_98 : decode cX10_drop 98 = .ok (.iload_n 2, 1) := by decide +kernel
theorem dX10_drop_99 : decode cX10_drop 99 = .ok (.ifCond .eq 8, 3) := by decide +kernel
theorem dX10_drop_102 : decode cX10_drop 102 = .ok (.bipush 9, 2) := by decide +kernel
theorem dX10_drop_104 : decode cX10_drop 104 = .ok (.goto 4, 3) := by decide +kernel
theorem dX10_drop_107 : decode cX10_drop 107 = .ok (.iload_n 3, 1) := by decide +kernel
theorem dX10_drop_108 : decode cX10_drop 108 = .ok (.iload_n 2, 1) := by decide +kernel
theorem dX10_drop_109 : decode cX10_drop 109 = .ok (.ifCond .eq 7, 3) := by decide +kernel
theorem dX10_drop_112 : decode cX10_drop 112 = .ok (.iload_n 3, 1) := by decide +kernel
theorem dX10_drop_113 : decode cX10_drop 113 = .ok (.goto 5, 3) := by decide +kernel
theorem dX10_drop_116 : decode cX10_drop 116 = .ok (.bipush 9, 2) := by decide +kernel
theorem dX10_drop_118 : decode cX10_drop 118 = .ok (.invokestatic 147, 3) := by decide +kernel
theorem dX10_drop_121 : decode cX10_drop 121 = .ok (.aastore, 1) := by decide +kernel
theorem dX10_drop_122 : decode cX10_drop 122 = .ok (.aload_n 0, 1) := by decide +kernel
theorem dX10_drop_123 : decode cX10_drop 123 = .ok (.iload 5, 2) := by decide +kernel
theorem dX10_drop_125 : decode cX10_drop 125 = .ok (.invokevirtual 70, 3) := by decide +kernel
theorem dX10_drop_128 : decode cX10_drop 128 = .ok (.ireturn, 1) := by decide +kernel
theorem dX10_sum_0 : decode cX10_sum 0 = .ok (.aload_n 0, 1) := by decide +kernel
theorem dX10_sum_1 : decode cX10_sum 1 = .ok (.iload_n 1, 1) := by decide +kernel
theorem dX10_sum_2 : decode cX10_sum 2 = .ok (.invokestatic 42, 3) := by decide +kernel
theorem dX10_sum_5 : decode cX10_sum 5 = .ok (.ifCond .eq 18, 3) := by decide +kernel
theorem dX10_sum_8 : decode cX10_sum 8 = .ok (.iload_n 2, 1) := by decide +kernel
theorem dX10_sum_9 : decode cX10_sum 9 = .ok (.invokestatic 42, 3) := by decide +kernel
theorem dX10_sum_12 : decode cX10_sum 12 = .ok (.ifCond .eq 11, 3) := by decide +kernel
theorem dX10_sum_15 : decode cX10_sum 15 = .ok (.iload 4, 2) := by decide +kernel
theorem dX10_sum_17 : decode cX10_sum 17 = .ok (.invokestatic 42, 3) := by decide +kernel
theorem dX10_sum_20 : decode cX10_sum 20 = .ok (.ifCond .ne 7, 3) := by decide +kernel
theorem dX10_sum_23 : decode cX10_sum 23 = .ok (.iconst 1, 1) := by decide +kernel
theorem dX10_sum_24 : decode cX10_sum 24 = .ok (.goto 4, 3) := by decide +kernel
theorem dX10_sum_27 : decode cX10_sum 27 = .ok (.iconst 0, 1) := by decide +kernel
theorem dX10_sum_28 : decode cX10_sum 28 = .ok (.invokevirtual 105, 3) := by decide +kernel
theorem dX10_sum_31 : decode cX10_sum 31 = .ok (.ifCond .eq 5, 3) := by decide +kernel
theorem dX10_sum_34 : decode cX10_sum 34 = .ok (.iconst 0, 1) := by decide +kernel
theorem dX10_sum_35 : decode cX10_sum 35 = .ok (.ireturn, 1) := by decide +kernel
theorem dX10_sum_36 : decode cX10_sum 36 = .ok (.aload_n 0, 1) := by decide +kernel
theorem dX10_sum_37 : decode cX10_sum 37 = .ok (.getfield 21, 3) := by decide +kernel
theorem dX10_sum_40 : decode cX10_sum 40 = .ok (.iload_n 1, 1) := by decide +kernel
theorem dX10_sum_41 : decode cX10_sum 41 = .ok (.aaload, 1) := by decide +kernel
theorem dX10_sum_42 : decode cX10_sum 42 = .ok (.astore 5, 2) := by decide +kernel
theorem dX10_sum_44 : decode cX10_sum 44 = .ok (.aload_n 0, 1) := by decide +kernel
theorem dX10_sum_45 : decode cX10_sum 45 = .ok (.getfield 21, 3) := by decide +kernel
theorem dX10_sum_48 : decode cX10_sum 48 = .ok (.iload_n 2, 1) := by decide +kernel
theorem dX10_sum_49 : decode cX10_sum 49 = .ok (.aaload, 1) := by decide +kernel
theorem dX10_sum_50 : decode cX10_sum 50 = .ok (.astore 6, 2) := by decide +kernel
theorem dX10_sum_52 : decode cX10_sum 52 = .ok (.aload 5, 2) := by decide +kernel
theorem dX10_sum_54 : decode cX10_sum 54 = .ok (.getfield 46, 3) := by decide +kernel
theorem dX10_sum_57 : decode cX10_sum 57 = .ok (.aload 6, 2) := by decide +kernel
theorem dX10_sum_59 : decode cX10_sum 59 = .ok (.getfield 46, 3) := by decide +kernel
theorem dX10_sum_62 : decode cX10_sum 62 = .ok (.if_icmp .ne 16, 3) := by decide +kernel
theorem dX10_sum_65 : decode cX10_sum 65 = .ok (.aload 5, 2) := by decide +kernel
theorem dX10_sum_67 : decode cX10_sum 67 = .ok (.getfield 49, 3) := by decide +kernel
theorem dX10_sum_70 : decode cX10_sum 70 = .ok (.aload 6, 2) := by decide +kernel
theorem dX10_sum_72 : decode cX10_sum 72 = .ok (.getfield 49, 3) := by decide +kernel
theorem dX10_sum_75 : decode cX10_sum 75 = .ok (.if_icmp .eq 8, 3) := by decide +kernel
theorem dX10_sum_78 : decode cX10_sum 78 = .ok (.aload_n 0, 1) := by decide +kernel
theorem dX10_sum_79 : decode cX10_sum 79 = .ok (.invokevirtual 63, 3) := by decide +kernel
theorem dX10_sum_82 : decode cX10_sum 82 = .ok (.ireturn, 1) := by decide +kernel
theorem dX10_sum_83 : decode cX10_sum 83 = .ok (.aload 5, 2) := by decide +kernel
theorem dX10_sum_85 : decode cX10_sum 85 = .ok (.invokevirtual 112, 3) := by decide +kernel
theorem dX10_sum_88 : decode cX10_sum 88 = .ok (.astore 7, 2) := by decide +kernel
theorem dX10_sum_90 : decode cX10_sum 90 = .ok (.iconst 0, 1) := by decide +kernel
theorem dX10_sum_91 : decode cX10_sum 91 = .ok (.istore 8, 2) := by decide +kernel
theorem dX10_sum_93 : decode cX10_sum 93 = .ok (.iload 8, 2) := by decide +kernel
theorem dX10_sum_95 : decode cX10_sum 95 = .ok (.aload 7, 2) := by decide +kernel
theorem dX10_sum_97 : decode cX10_sum 97 = .ok (.getfield 151, 3) := by decide +kernel
theorem dX10_sum_100 : decode cX10_sum 100 = .ok (.arraylength, 1) := by decide +kernel
theorem dX10_sum_101 : decode cX10_sum 101 = .ok (.if_icmp .ge 44, 3) := by decide +kernel
theorem dX10_sum_104 : decode cX10_sum 104 = .ok (.aload 7, 2) := by decide +kernel
theorem dX10_sum_106 : decode cX10_sum 106 = .ok (.getfield 151, 3) := by decide +kernel
theorem dX10_sum_109 : decode cX10_sum 109 = .ok (.iload 8, 2) := by decide +kernel
theorem dX10_sum_111 : decode cX10_sum 111 = .ok (.dup2, 1) := by decide +kernel
theorem dX10_sum_112 : decode cX10_sum 112 = .ok (.laload, 1) := by decide +kernel
theorem dX10_sum_113 : decode cX10_sum 113 = .ok (.iload_n 3, 1) := by decide +kernel
theorem dX10_sum_114 : decode cX10_sum 114 = .ok (.ifCond .eq 15, 3) := by decide +kernel
theorem dX10_sum_117 : decode cX10_sum 117 = .ok (.aload 6, 2) := by decide +kernel
theorem dX10_sum_119 : decode cX10_sum 119 = .ok (.getfield 151, 3) := by decide +kernel
theorem dX10_sum_122 : decode cX10_sum 122 = .ok (.iload 8, 2) := by decide +kernel
theorem dX10_sum_124 : decode cX10_sum 124 = .ok (.laload, 1) := by decide +kernel
theorem dX10_sum_125 : decode cX10_sum 125 = .ok (.lneg, 1) := by decide +kernel
theorem dX10_sum_126 : decode cX10_sum 126 = .ok (.goto 11, 3) := by decide +kernel
theorem dX10_sum_129 : decode cX10_sum 129 = .ok (.aload 6, 2) := by decide +kernel
theorem dX10_sum_131 : decode cX10_sum 131 = .ok (.getfield 151, 3) := by decide +kernel
theorem dX10_sum_134 : decode cX10_sum 134 = .ok (.iload 8, 2) := by decide +kernel
theorem dX10_sum_136 : decode cX10_sum 136 = .ok (.laload, 1) := by decide +kernel
theorem dX10_sum_137 : decode cX10_sum 137 = .ok (.ladd, 1) := by decide +kernel
theorem dX10_sum_138 : decode cX10_sum 138 = .ok (.lastore, 1) := by decide +kernel
theorem dX10_sum_139 : decode cX10_sum 139 = .ok (.iinc 8 1, 3) := by decide +kernel
theorem dX10_sum_142 : decode cX10_sum 142 = .ok (.goto (-49), 3) := by decide +kernel
theorem dX10_sum_145 : decode cX10_sum 145 = .ok (.aload_n 0, 1) := by decide +kernel
theorem dX10_sum_146 : decode cX10_sum 146 = .ok (.iload 4, 2) := by decide +kernel
theorem dX10_sum_148 : decode cX10_sum 148 = .ok (.aload 7, 2) := by decide +kernel
theorem dX10_sum_150 : decode cX10_sum 150 = .ok (.invokevirtual 155, 3) := by decide +kernel
theorem dX10_sum_153 : decode cX10_sum 153 = .ok (.ireturn, 1) := by decide +kernel
theorem dX10_multiply_0 : decode cX10_multiply 0 = .ok (.aload_n 0, 1) := by decide +kernel
theorem dX10_multiply_1 : decode cX10_multiply 1 = .ok (.iload_n 1, 1) := by decide +kernel
theorem dX10_multiply_2 : decode cX10_multiply 2 = .ok (.invokestatic 42, 3) := by decide +kernel
theorem dX10_multiply_5 : decode cX10_multiply 5 = .ok (.ifCond .eq 17, 3) := by decide +kernel
theorem dX10_multiply_8 : decode cX10_multiply 8 = .ok (.iload_n 2, 1) := by decide +kernel
theorem dX10_multiply_9 : decode cX10_multiply 9 = .ok (.invokestatic 42, 3) := by decide +kernel
theorem dX10_multiply_12 : decode cX10_multiply 12 = .ok (.ifCond .eq 10, 3) := by decide +kernel
theorem dX10_multiply_15 : decode cX10_multiply 15 = .ok (.iload_n 3, 1) := by decide +kernel
theorem dX10_multiply_16 : decode cX10_multiply 16 = .ok (.invokestatic 42, 3) := by decide +kernel
theorem dX10_multiply_19 : decode cX10_multiply 19 = .ok (.ifCond .ne 7, 3) := by decide +kernel
theorem dX10_multiply_22 : decode cX10_multiply 22 = .ok (.iconst 1, 1) := by decide +kernel
theorem dX10_multiply_23 : decode cX10_multiply 23 = .ok (.goto 4, 3) := by decide +kernel
theorem dX10_multiply_26 : decode cX10_multiply 26 = .ok (.iconst 0, 1) := by decide +kernel
theorem dX10_multiply_27 : decode cX10_multiply 27 = .ok (.invokevirtual 105, 3) := by decide +kernel
theorem dX10_multiply_30 : decode cX10_multiply 30 = .ok (.ifCond .eq 5, 3) := by decide +kernel
theorem dX10_multiply_33 : decode cX10_multiply 33 = .ok (.iconst 0, 1) := by decide +kernel
theorem dX10_multiply_34 : decode cX10_multiply 34 = .ok (.ireturn, 1) := by decide +kernel
theorem dX10_multiply_35 : decode cX10_multiply 35 = .ok (.aload_n 0, 1) := by decide +kernel
theorem dX10_multiply_36 : decode cX10_multiply 36 = .ok (.getfield 21, 3) := by decide +kernel
theorem dX10_multiply_39 : decode cX10_multiply 39 = .ok (.iload_n 1, 1) := by decide +kernel
theorem dX10_multiply_40 : decode cX10_multiply 40 = .ok (.aaload, 1) := by decide +kernel
theorem dX10_multiply_41 : decode cX10_multiply 41 = .ok (.getfield 49, 3) := by decide +kernel
theorem dX10_multiply_44 : decode cX10_multiply 44 = .ok (.aload_n 0, 1) := by decide +kernel
theorem dX10_multiply_45 : decode cX10_multiply 45 = .ok (.getfield 21, 3) := by decide +kernel
theorem dX10_multiply_48 : decode cX10_multiply 48 = .ok (.iload_n 2, 1) := by decide +kernel
theorem dX10_multiply_49 : decode cX10_multiply 49 = .ok (.aaload, 1) := by decide +kernel
theorem dX10_multiply_50 : decode cX10_multiply 50 = .ok (.getfield 46, 3) := by decide +kernel
theorem dX10_multiply_53 : decode cX10_multiply 53 = .ok (.if_icmp .eq 10, 3) := by decide +kernel
theorem dX10_multiply_56 : decode cX10_multiply 56 = .ok (.aload_n 0, 1) := by decide +kernel
theorem dX10_multiply_57 : decode cX10_multiply 57 = .ok (.invokevirtual 63, 3) := by decide +kernel
theorem dX10_multiply_60 : decode cX10_multiply 60 = .ok (.goto 23, 3) := by decide +kernel
theorem dX10_multiply_63 : decode cX10_multiply 63 = .ok (.aload_n 0, 1) := by decide +kernel
theorem dX10_multiply_64 : decode cX10_multiply 64 = .ok (.iload_n 3, 1) := by decide +kernel
theorem dX10_multiply_65 : decode cX10_multiply 65 = .ok (.aload_n 0, 1) := by decide +kernel
theorem dX10_multiply_66 : decode cX10_multiply 66 = .ok (.getfield 21, 3) := by decide +kernel
theorem dX10_multiply_69 : decode cX10_multiply 69 = .ok (.iload_n 1, 1) := by decide +kernel
theorem dX10_multiply_70 : decode cX10_multiply 70 = .ok (.aaload, 1) := by decide +kernel
theorem dX10_multiply_71 : decode cX10_multiply 71 = .ok (.aload_n 0, 1) := by decide +kernel
theorem dX10_multiply_72 : decode cX10_multiply 72 = .ok (.getfield 21, 3) := by decide +kernel
theorem dX10_multiply_75 : decode cX10_multiply 75 = .ok (.iload_n 2, 1) := by decide +kernel
theorem dX10_multiply_76 : decode cX10_multiply 76 = .ok (.aaload, 1) := by decide +kernel
theorem dX10_multiply_77 : decode cX10_multiply 77 = .ok (.invokevirtual 158, 3) := by decide +kernel
theorem dX10_multiply_80 : decode cX10_multiply 80 = .ok (.invokevirtual 155, 3) := by decide +kernel
theorem dX10_multiply_83 : decode cX10_multiply 83 = .ok (.ireturn, 1) := by decide +kernel
theorem dX10_toldOf_0 : decode cX10_toldOf 0 = .ok (.iload_n 1, 1) := by decide +kernel
theorem dX10_toldOf_1 : decode cX10_toldOf 1 = .ok (.iconst 2, 1) := by decide +kernel
theorem dX10_toldOf_2 : decode cX10_toldOf 2 = .ok (.if_icmp .ge 39, 3) := by decide +kernel
theorem dX10_toldOf_5 : decode cX10_toldOf 5 = .ok (.new 161, 3) := by decide +kernel
theorem dX10_toldOf_8 : decode cX10_toldOf 8 = .ok (.dup, 1) := by decide +kernel
theorem dX10_toldOf_9 : decode cX10_toldOf 9 = .ok (.aload_n 0, 1) := by decide +kernel
theorem dX10_toldOf_10 : decode cX10_toldOf 10 = .ok (.invokespecial 163, 3) := by decide +kernel
theorem dX10_toldOf_13 : decode cX10_toldOf 13 = .ok (.astore_n 2, 1) := by decide +kernel
theorem dX10_toldOf_14 : decode cX10_toldOf 14 = .ok (.aload_n 2, 1) := by decide +kernel
theorem dX10_toldOf_15 : decode cX10_toldOf 15 = .ok (.getfield 166, 3) := by decide +kernel
theorem dX10_toldOf_18 : decode cX10_toldOf 18 = .ok (.ifCond .eq 7, 3) := by decide +kernel
theorem dX10_toldOf_21 : decode cX10_toldOf 21 = .ok (.aconst_null, 1) := by decide +kernel
theorem dX10_toldOf_22 : decode cX10_toldOf 22 = .ok (.goto 18, 3) := by decide +kernel
theorem dX10_toldOf_25 : decode cX10_toldOf 25 = .ok (.iload_n 1, 1) := by decide +kernel
theorem dX10_toldOf_26 : decode cX10_toldOf 26 = .ok (.ifCond .ne 10, 3) := by decide +kernel
theorem dX10_toldOf_29 : decode cX10_toldOf 29 = .ok (.aload_n 2, 1) := by decide +kernel
theorem dX10_toldOf_30 : decode cX10_toldOf 30 = .ok (.getfield 170, 3) := by decide +kernel
theorem dX10_toldOf_33 : decode cX10_toldOf 33 = .ok (.goto 7, 3) := by decide +kernel
theorem dX10_toldOf_36 : decode cX10_toldOf 36 = .ok (.aload_n 2, 1) := by decide +kernel
theorem dX10_toldOf_37 : decode cX10_toldOf 37 = .ok (.getfield 174, 3) := by decide +kernel
theorem dX10_toldOf_40 : decode cX10_toldOf 40 = .ok (.areturn, 1) := by decide +kernel
theorem dX10_toldOf_41 : decode cX10_toldOf 41 = .ok (.new 177, 3) := by decide +kernel
theorem dX10_toldOf_44 : decode cX10_toldOf 44 = .ok (.dup, 1) := by decide +kernel
theorem dX10_toldOf_45 : decode cX10_toldOf 45 = .ok (.aload_n 0, 1) := by decide +kernel
theorem dX10_toldOf_46 : decode cX10_toldOf 46 = .ok (.invokespecial 179, 3) := by decide +kernel
theorem dX10_toldOf_49 : decode cX10_toldOf 49 = .ok (.astore_n 2, 1) := by decide +kernel
theorem dX10_toldOf_50 : decode cX10_toldOf 50 = .ok (.aload_n 2, 1) := by decide +kernel
theorem dX10_toldOf_51 : decode cX10_toldOf 51 = .ok (.getfield 180, 3) := by decide +kernel
theorem dX10_toldOf_54 : decode cX10_toldOf 54 = .ok (.ifCond .eq 7, 3) := by decide +kernel
theorem dX10_toldOf_57 : decode cX10_toldOf 57 = .ok (.aconst_null, 1) := by decide +kernel
theorem dX10_toldOf_58 : decode cX10_toldOf 58 = .ok (.goto 31, 3) := by decide +kernel
theorem dX10_toldOf_61 : decode cX10_toldOf 61 = .ok (.iload_n 1, 1) := by decide +kernel
theorem dX10_toldOf_62 : decode cX10_toldOf 62 = .ok (.iconst 2, 1) := by decide +kernel
theorem dX10_toldOf_63 : decode cX10_toldOf 63 = .ok (.if_icmp .ne 10, 3) := by decide +kernel
theorem dX10_toldOf_66 : decode cX10_toldOf 66 = .ok (.aload_n 2, 1) := by decide +kernel
theorem dX10_toldOf_67 : decode cX10_toldOf 67 = .ok (.getfield 181, 3) := by decide +kernel
theorem dX10_toldOf_70 : decode cX10_toldOf 70 = .ok (.goto 19, 3) := by decide +kernel
theorem dX10_toldOf_73 : decode cX10_toldOf 73 = .ok (.iload_n 1, 1) := by decide +kernel
theorem dX10_toldOf_74 : decode cX10_toldOf 74 = .ok (.iconst 3, 1) := by decide +kernel
theorem dX10_toldOf_75 : decode cX10_toldOf 75 = .ok (.if_icmp .ne 10, 3) := by decide +kernel
theorem dX10_toldOf_78 : decode cX10_toldOf 78 = .ok (.aload_n 2, 1) := by decide +kernel
theorem dX10_toldOf_79 : decode cX10_toldOf 79 = .ok (.getfield 182, 3) := by decide +kernel
theorem dX10_toldOf_82 : decode cX10_toldOf 82 = .ok (.goto 7, 3) := by decide +kernel
theorem dX10_toldOf_85 : decode cX10_toldOf 85 = .ok (.aload_n 2, 1) := by decide +kernel
theorem dX10_toldOf_86 : decode cX10_toldOf 86 = .ok (.getfield 185, 3) := by decide +kernel
theorem dX10_toldOf_89 : decode cX10_toldOf 89 = .ok (.areturn, 1) := by decide +kernel
theorem dX10_take_0 : decode cX10_take 0 = .ok (.aload_n 0, 1) := by decide +kernel
theorem dX10_take_1 : decode cX10_take 1 = .ok (.iload_n 1, 1) := by decide +kernel
theorem dX10_take_2 : decode cX10_take 2 = .ok (.invokestatic 42, 3) := by decide +kernel
theorem dX10_take_5 : decode cX10_take 5 = .ok (.ifCond .eq 10, 3) := by decide +kernel
theorem dX10_take_8 : decode cX10_take 8 = .ok (.iload_n 3, 1) := by decide +kernel
theorem dX10_take_9 : decode cX10_take 9 = .ok (.invokestatic 42, 3) := by decide +kernel
theorem dX10_take_12 : decode cX10_take 12 = .ok (.ifCond .ne 7, 3) := by decide +kernel
theorem dX10_take_15 : decode cX10_take 15 = .ok (.iconst 1, 1) := by decide +kernel
theorem dX10_take_16 : decode cX10_take 16 = .ok (.goto 4, 3) := by decide +kernel
theorem dX10_take_19 : decode cX10_take 19 = .ok (.iconst 0, 1) := by decide +kernel
theorem dX10_take_20 : decode cX10_take 20 = .ok (.iload_n 2, 1) := by decide +kernel
theorem dX10_take_21 : decode cX10_take 21 = .ok (.ifCond .lt 8, 3) := by decide +kernel
theorem dX10_take_24 : decode cX10_take 24 = .ok (.iload_n 2, 1) := by decide +kernel
theorem dX10_take_25 : decode cX10_take 25 = .ok (.iconst 4, 1) := by decide +kernel
theorem dX10_take_26 : decode cX10_take 26 = .ok (.if_icmp .le 7, 3) := by decide +kernel
theorem dX10_take_29 : decode cX10_take 29 = .ok (.iconst 1, 1) := by decide +kernel
theorem dX10_take_30 : decode cX10_take 30 = .ok (.goto 4, 3) := by decide +kernel
theorem dX10_take_33 : decode cX10_take 33 = .ok (.iconst 0, 1) := by decide +kernel
theorem dX10_take_34 : decode cX10_take 34 = .ok (.invokevirtual 77, 3) := by decide +kernel
theorem dX10_take_37 : decode cX10_take 37 = .ok (.ifCond .eq 5, 3) := by decide +kernel
theorem dX10_take_40 : decode cX10_take 40 = .ok (.iconst 0, 1) := by decide +kernel
theorem dX10_take_41 : decode cX10_take 41 = .ok (.ireturn, 1) := by decide +kernel
theorem dX10_take_42 : decode cX10_take 42 = .ok (.aload_n 0, 1) := by decide +kernel
theorem dX10_take_43 : decode cX10_take 43 = .ok (.getfield 21, 3) := by decide +kernel
theorem dX10_take_46 : decode cX10_take 46 = .ok (.iload_n 1, 1) := by decide +kernel
theorem dX10_take_47 : decode cX10_take 47 = .ok (.aaload, 1) := by decide +kernel
theorem dX10_take_48 : decode cX10_take 48 = .ok (.iload_n 2, 1) := by decide +kernel
theorem dX10_take_49 : decode cX10_take 49 = .ok (.invokestatic 188, 3) := by decide +kernel
theorem dX10_take_52 : decode cX10_take 52 = .ok (.astore 4, 2) := by decide +kernel
theorem dX10_take_54 : decode cX10_take 54 = .ok (.aload 4, 2) := by decide +kernel
theorem dX10_take_56 : decode cX10_take 56 = .ok (.ifnonnull 10, 3) := by decide +kernel
theorem dX10_take_59 : decode cX10_take 59 = .ok (.aload_n 0, 1) := by decide +kernel
theorem dX10_take_60 : decode cX10_take 60 = .ok (.invokevirtual 63, 3) := by decide +kernel
theorem dX10_take_63 : decode cX10_take 63 = .ok (.goto 10, 3) := by decide +kernel
theorem dX10_take_66 : decode cX10_take 66 = .ok (.aload_n 0, 1) := by decide +kernel
theorem dX10_take_67 : decode cX10_take 67 = .ok (.iload_n 3, 1) := by decide +kernel
theorem dX10_take_68 : decode cX10_take 68 = .ok (.aload 4, 2) := by decide +kernel
theorem dX10_take_70 : decode cX10_take 70 = .ok (.invokevirtual 155, 3) := by decide +kernel
theorem dX10_take_73 : decode cX10_take 73 = .ok (.ireturn, 1) := by decide +kernel
theorem dX10_column_0 : decode cX10_column 0 = .ok (.new 19, 3) := by decide +kernel
theorem dX10_column_3 : decode cX10_column 3 = .ok (.dup, 1) := by decide +kernel
theorem dX10_column_4 : decode cX10_column 4 = .ok (.aload_n 0, 1) := by decide +kernel
theorem dX10_column_5 : decode cX10_column 5 = .ok (.getfield 21, 3) := by decide +kernel
theorem dX10_column_8 : decode cX10_column 8 = .ok (.iload_n 1, 1) := by decide +kernel
theorem dX10_column_9 : decode cX10_column 9 = .ok (.aaload, 1) := by decide +kernel
theorem dX10_column_10 : decode cX10_column 10 = .ok (.getfield 46, 3) := by decide +kernel
theorem dX10_column_13 : decode cX10_column 13 = .ok (.iconst 1, 1) := by decide +kernel
theorem dX10_column_14 : decode cX10_column 14 = .ok (.invokespecial 25, 3) := by decide +kernel
theorem dX10_column_17 : decode cX10_column 17 = .ok (.astore_n 3, 1) := by decide +kernel
theorem dX10_column_18 : decode cX10_column 18 = .ok (.iconst 0, 1) := by decide +kernel
theorem dX10_column_19 : decode cX10_column 19 = .ok (.istore 4, 2) := by decide +kernel
theorem dX10_column_21 : decode cX10_column 21 = .ok (.iload 4, 2) := by decide +kernel
theorem dX10_column_23 : decode cX10_column 23 = .ok (.aload_n 3, 1) := by decide +kernel
theorem dX10_column_24 : decode cX10_column 24 = .ok (.getfield 46, 3) := by decide +kernel
theorem dX10_column_27 : decode cX10_column 27 = .ok (.if_icmp .ge 28, 3) := by decide +kernel
theorem dX10_column_30 : decode cX10_column 30 = .ok (.aload_n 3, 1) := by decide +kernel
theorem dX10_column_31 : decode cX10_column 31 = .ok (.iload 4, 2) := by decide +kernel
theorem dX10_column_33 : decode cX10_column 33 = .ok (.iconst 0, 1) := by decide +kernel
theorem dX10_column_34 : decode cX10_column 34 = .ok (.aload_n 0, 1) := by decide +kernel
theorem dX10_column_35 : decode cX10_column 35 = .ok (.getfield 21, 3) := by decide +kernel
theorem dX10_column_38 : decode cX10_column 38 = .ok (.iload_n 1, 1) := by decide +kernel
theorem dX10_column_39 : decode cX10_column 39 = .ok (.aaload, 1) := by decide +kernel
theorem dX10_column_40 : decode cX10_column 40 = .ok (.iload 4, 2) := by decide +kernel
theorem dX10_column_42 : decode cX10_column 42 = .ok (.iload_n 2, 1) := by decide +kernel
theorem dX10_column_43 : decode cX10_column 43 = .ok (.invokevirtual 88, 3) := by decide +kernel
theorem dX10_column_46 : decode cX10_column 46 = .ok (.invokevirtual 92, 3) := by decide +kernel
theorem dX10_column_49 : decode cX10_column 49 = .ok (.iinc 4 1, 3) := by decide +kernel
theorem dX10_column_52 : decode cX10_column 52 = .ok (.goto (-31), 3) := by decide +kernel
theorem dX10_column_55 : decode cX10_column 55 = .ok (.aload_n 3, 1) := by decide +kernel
theorem dX10_column_56 : decode cX10_column 56 = .ok (.areturn, 1) := by decide +kernel
theorem dX10_goes_0 : decode cX10_goes 0 = .ok (.iconst 0, 1) := by decide +kernel
theorem dX10_goes_1 : decode cX10_goes 1 = .ok (.istore_n 2, 1) := by decide +kernel
theorem dX10_goes_2 : decode cX10_goes 2 = .ok (.iload_n 2, 1) := by decide +kernel
theorem dX10_goes_3 : decode cX10_goes 3 = .ok (.aload_n 1, 1) := by decide +kernel
theorem dX10_goes_4 : decode cX10_goes 4 = .ok (.getfield 46, 3) := by decide +kernel
theorem dX10_goes_7 : decode cX10_goes 7 = .ok (.if_icmp .ge 54, 3) := by decide +kernel
theorem dX10_goes_10 : decode cX10_goes 10 = .ok (.iload_n 2, 1) := by decide +kernel
theorem dX10_goes_11 : decode cX10_goes 11 = .ok (.aload_n 0, 1) := by decide +kernel
theorem dX10_goes_12 : decode cX10_goes 12 = .ok (.getfield 192, 3) := by decide +kernel
theorem dX10_goes_15 : decode cX10_goes 15 = .ok (.if_icmp .ge 27, 3) := by decide +kernel
theorem dX10_goes_18 : decode cX10_goes 18 = .ok (.aload_n 1, 1) := by decide +kernel
theorem dX10_goes_19 : decode cX10_goes 19 = .ok (.iload_n 2, 1) := by decide +kernel
theorem dX10_goes_20 : decode cX10_goes 20 = .ok (.iconst 0, 1) := by decide +kernel
theorem dX10_goes_21 : decode cX10_goes 21 = .ok (.invokevirtual 88, 3) := by decide +kernel
theorem dX10_goes_24 : decode cX10_goes 24 = .ok (.aload_n 0, 1) := by decide +kernel
theorem dX10_goes_25 : decode cX10_goes 25 = .ok (.getfield 181, 3) := by decide +kernel
theorem dX10_goes_28 : decode cX10_goes 28 = .ok (.iload_n 2, 1) := by decide +kernel
theorem dX10_goes_29 : decode cX10_goes 29 = .ok (.iload_n 2, 1) := by decide +kernel
theorem dX10_goes_30 : decode cX10_goes 30 = .ok (.invokevirtual 88, 3) := by decide +kernel
theorem dX10_goes_33 : decode cX10_goes 33 = .ok (.lrem, 1) := by decide +kernel
theorem dX10_goes_34 : decode cX10_goes 34 = .ok (.lconst 0, 1) := by decide +kernel
theorem dX10_goes_35 : decode cX10_goes 35 = .ok (.lcmp, 1) := by decide +kernel
theorem dX10_goes_36 : decode cX10_goes 36 = .ok (.ifCond .eq 19, 3) := by decide +kernel
theorem dX10_goes_39 : decode cX10_goes 39 = .ok (.goto 14, 3) := by decide +kernel
theorem dX10_goes_42 : decode cX10_goes 42 = .ok (.aload_n 1, 1) := by decide +kernel
theorem dX10_goes_43 : decode cX10_goes 43 = .ok (.iload_n 2, 1) := by decide +kernel
theorem dX10_goes_44 : decode cX10_goes 44 = .ok (.iconst 0, 1) := by decide +kernel
theorem dX10_goes_45 : decode cX10_goes 45 = .ok (.invokevirtual 88, 3) := by decide +kernel
theorem dX10_goes_48 : decode cX10_goes 48 = .ok (.lconst 0, 1) := by decide +kernel
theorem dX10_goes_49 : decode cX10_goes 49 = .ok (.lcmp, 1) := by decide +kernel
theorem dX10_goes_50 : decode cX10_goes 50 = .ok (.ifCond .eq 5, 3) := by decide +kernel
theorem dX10_goes_53 : decode cX10_goes 53 = .ok (.iconst 0, 1) := by decide +kernel
theorem dX10_goes_54 : decode cX10_goes 54 = .ok (.ireturn, 1) := by decide +kernel
theorem dX10_goes_55 : decode cX10_goes 55 = .ok (.iinc 2 1, 3) := by decide +kernel
theorem dX10_goes_58 : decode cX10_goes 58 = .ok (.goto (-56), 3) := by decide +kernel
theorem dX10_goes_61 : decode cX10_goes 61 = .ok (.iconst 1, 1) := by decide +kernel
theorem dX10_goes_62 : decode cX10_goes 62 = .ok (.ireturn, 1) := by decide +kernel
theorem dX10_solve_0 : decode cX10_solve 0 = .ok (.aload_n 0, 1) := by decide +kernel
theorem dX10_solve_1 : decode cX10_solve 1 = .ok (.iload_n 1, 1) := by decide +kernel
theorem dX10_solve_2 : decode cX10_solve 2 = .ok (.invokestatic 42, 3) := by decide +kernel
theorem dX10_solve_5 : decode cX10_solve 5 = .ok (.ifCond .eq 20, 3) := by decide +kernel
theorem dX10_solve_8 : decode cX10_solve 8 = .ok (.aload_n 0, 1) := by decide +kernel
theorem dX10_solve_9 : decode cX10_solve 9 = .ok (.iload_n 2, 1) := by decide +kernel
theorem dX10_solve_10 : decode cX10_solve 10 = .ok (.iload_n 3, 1) := by decide +kernel
theorem dX10_solve_11 : decode cX10_solve 11 = .ok (.invokevirtual 52, 3) := by decide +kernel
theorem dX10_solve_14 : decode cX10_solve 14 = .ok (.ifCond .eq 11, 3) := by decide +kernel
theorem dX10_solve_17 : decode cX10_solve 17 = .ok (.iload 4, 2) := by decide +kernel
theorem dX10_solve_19 : decode cX10_solve 19 = .ok (.invokestatic 42, 3) := by decide +kernel
theorem dX10_solve_22 : decode cX10_solve 22 = .ok (.ifCond .ne 7, 3) := by decide +kernel
theorem dX10_solve_25 : decode cX10_solve 25 = .ok (.iconst 1, 1) := by decide +kernel
theorem dX10_solve_26 : decode cX10_solve 26 = .ok (.goto 4, 3) := by decide +kernel
theorem dX10_solve_29 : decode cX10_solve 29 = .ok (.iconst 0, 1) := by decide +kernel
theorem dX10_solve_30 : decode cX10_solve 30 = .ok (.invokevirtual 105, 3) := by decide +kernel
theorem dX10_solve_33 : decode cX10_solve 33 = .ok (.ifCond .eq 5, 3) := by decide +kernel
theorem dX10_solve_36 : decode cX10_solve 36 = .ok (.iconst 0, 1) := by decide +kernel
theorem dX10_solve_37 : decode cX10_solve 37 = .ok (.ireturn, 1) := by decide +kernel
theorem dX10_solve_38 : decode cX10_solve 38 = .ok (.aload_n 0, 1) := by decide +kernel
theorem dX10_solve_39 : decode cX10_solve 39 = .ok (.getfield 21, 3) := by decide +kernel
theorem dX10_solve_42 : decode cX10_solve 42 = .ok (.iload_n 1, 1) := by decide +kernel
theorem dX10_solve_43 : decode cX10_solve 43 = .ok (.aaload, 1) := by decide +kernel
theorem dX10_solve_44 : decode cX10_solve 44 = .ok (.astore 5, 2) := by decide +kernel
theorem dX10_solve_46 : decode cX10_solve 46 = .ok (.aload 5, 2) := by decide +kernel
theorem dX10_solve_48 : decode cX10_solve 48 = .ok (.getfield 46, 3) := by decide +kernel
theorem dX10_solve_51 : decode cX10_solve 51 = .ok (.aload_n 0, 1) := by decide +kernel
theorem dX10_solve_52 : decode cX10_solve 52 = .ok (.getfield 21, 3) := by decide +kernel
theorem dX10_solve_55 : decode cX10_solve 55 = .ok (.iload_n 2, 1) := by decide +kernel
theorem dX10_solve_56 : decode cX10_solve 56 = .ok (.aaload, 1) := by decide +kernel
theorem dX10_solve_57 : decode cX10_solve 57 = .ok (.getfield 46, 3) := by decide +kernel
theorem dX10_solve_60 : decode cX10_solve 60 = .ok (.if_icmp .eq 8, 3) := by decide +kernel
theorem dX10_solve_63 : decode cX10_solve 63 = .ok (.aload_n 0, 1) := by decide +kernel
theorem dX10_solve_64 : decode cX10_solve 64 = .ok (.invokevirtual 63, 3) := by decide +kernel
theorem dX10_solve_67 : decode cX10_solve 67 = .ok (.ireturn, 1) := by decide +kernel
theorem dX10_solve_68 : decode cX10_solve 68 = .ok (.new 177, 3) := by decide +kernel
theorem dX10_solve_71 : decode cX10_solve 71 = .ok (.dup, 1) := by decide +kernel
theorem dX10_solve_72 : decode cX10_solve 72 = .ok (.aload 5, 2) := by decide +kernel
theorem dX10_solve_74 : decode cX10_solve 74 = .ok (.invokespecial 179, 3) := by decide +kernel
theorem dX10_solve_77 : decode cX10_solve 77 = .ok (.astore 6, 2) := by decide +kernel
theorem dX10_solve_79 : decode cX10_solve 79 = .ok (.aload 6, 2) := by decide +kernel
theorem dX10_solve_81 : decode cX10_solve 81 = .ok (.getfield 180, 3) := by decide +kernel
theorem dX10_solve_84 : decode cX10_solve 84 = .ok (.ifCond .eq 8, 3) := by decide +kernel
theorem dX10_solve_87 : decode cX10_solve 87 = .ok (.aload_n 0, 1) := by decide +kernel
theorem dX10_solve_88 : decode cX10_solve 88 = .ok (.invokevirtual 63, 3) := by decide +kernel
theorem dX10_solve_91 : decode cX10_solve 91 = .ok (.ireturn, 1) := by decide +kernel
theorem dX10_solve_92 : decode cX10_solve 92 = .ok (.aload 6, 2) := by decide +kernel
theorem dX10_solve_94 : decode cX10_solve 94 = .ok (.getfield 182, 3) := by decide +kernel
theorem dX10_solve_97 : decode cX10_solve 97 = .ok (.aload_n 0, 1) := by decide +kernel
theorem dX10_solve_98 : decode cX10_solve 98 = .ok (.iload_n 2, 1) := by decide +kernel
theorem dX10_solve_99 : decode cX10_solve 99 = .ok (.iload_n 3, 1) := by decide +kernel
theorem dX10_solve_100 : decode cX10_solve 100 = .ok (.invokevirtual 195, 3) := by decide +kernel
theorem dX10_solve_103 : decode cX10_solve 103 = .ok (.invokevirtual 158, 3) := by decide +kernel
theorem dX10_solve_106 : decode cX10_solve 106 = .ok (.astore 7, 2) := by decide +kernel
theorem dX10_solve_108 : decode cX10_solve 108 = .ok (.aload 6, 2) := by decide +kernel
theorem dX10_solve_110 : decode cX10_solve 110 = .ok (.aload 7, 2) := by decide +kernel
theorem dX10_solve_112 : decode cX10_solve 112 = .ok (.invokestatic 199, 3) := by decide +kernel
theorem dX10_solve_115 : decode cX10_solve 115 = .ok (.ifCond .ne 8, 3) := by decide +kernel
theorem dX10_solve_118 : decode cX10_solve 118 = .ok (.aload_n 0, 1) := by decide +kernel
theorem dX10_solve_119 : decode cX10_solve 119 = .ok (.invokevirtual 63, 3) := by decide +kernel
theorem dX10_solve_122 : decode cX10_solve 122 = .ok (.ireturn, 1) := by decide +kernel
theorem dX10_solve_123 : decode cX10_solve 123 = .ok (.new 19, 3) := by decide +kernel
theorem dX10_solve_126 : decode cX10_solve 126 = .ok (.dup, 1) := by decide +kernel
theorem dX10_solve_127 : decode cX10_solve 127 = .ok (.aload 5, 2) := by decide +kernel
theorem dX10_solve_129 : decode cX10_solve 129 = .ok (.getfield 49, 3) := by decide +kernel
theorem dX10_solve_132 : decode cX10_solve 132 = .ok (.iconst 1, 1) := by decide +kernel
theorem dX10_solve_133 : decode cX10_solve 133 = .ok (.invokespecial 25, 3) := by decide +kernel
theorem dX10_solve_136 : decode cX10_solve 136 = .ok (.astore 8, 2) := by decide +kernel
theorem dX10_solve_138 : decode cX10_solve 138 = .ok (.iconst 0, 1) := by decide +kernel
theorem dX10_solve_139 : decode cX10_solve 139 = .ok (.istore 9, 2) := by decide +kernel
theorem dX10_solve_141 : decode cX10_solve 141 = .ok (.iload 9, 2) := by decide +kernel
theorem dX10_solve_143 : decode cX10_solve 143 = .ok (.aload 6, 2) := by decide +kernel
theorem dX10_solve_145 : decode cX10_solve 145 = .ok (.getfield 192, 3) := by decide +kernel
theorem dX10_solve_148 : decode cX10_solve 148 = .ok (.if_icmp .ge 38, 3) := by decide +kernel
theorem dX10_solve_151 : decode cX10_solve 151 = .ok (.aload 8, 2) := by decide +kernel
theorem dX10_solve_153 : decode cX10_solve 153 = .ok (.iload 9, 2) := by decide +kernel
theorem dX10_solve_155 : decode cX10_solve 155 = .ok (.iconst 0, 1) := by decide +kernel
theorem dX10_solve_156 : decode cX10_solve 156 = .ok (.aload 7, 2) := by decide +kernel
theorem dX10_solve_158 : decode cX10_solve 158 = .ok (.iload 9, 2) := by decide +kernel
theorem dX10_solve_160 : decode cX10_solve 160 = .ok (.iconst 0, 1) := by decide +kernel
theorem dX10_solve_161 : decode cX10_solve 161 = .ok (.invokevirtual 88, 3) := by decide +kernel
theorem dX10_solve_164 : decode cX10_solve 164 = .ok (.aload 6, 2) := by decide +kernel
theorem dX10_solve_166 : decode cX10_solve 166 = .ok (.getfield 181, 3) := by decide +kernel
theorem dX10_solve_169 : decode cX10_solve 169 = .ok (.iload 9, 2) := by decide +kernel
theorem dX10_solve_171 : decode cX10_solve 171 = .ok (.iload 9, 2) := by decide +kernel
theorem dX10_solve_173 : decode cX10_solve 173 = .ok (.invokevirtual 88, 3) := by decide +kernel
theorem dX10_solve_176 : decode cX10_solve 176 = .ok (.ldiv, 1) := by decide +kernel
theorem dX10_solve_177 : decode cX10_solve 177 = .ok (.invokevirtual 92, 3) := by decide +kernel
theorem dX10_solve_180 : decode cX10_solve 180 = .ok (.iinc 9 1, 3) := by decide +kernel
theorem dX10_solve_183 : decode cX10_solve 183 = .ok (.goto (-42), 3) := by decide +kernel
theorem dX10_solve_186 : decode cX10_solve 186 = .ok (.aload 8, 2) := by decide +kernel
theorem dX10_solve_188 : decode cX10_solve 188 = .ok (.invokevirtual 203, 3) := by decide +kernel
theorem dX10_solve_191 : decode cX10_solve 191 = .ok (.ifCond .eq 8, 3) := by decide +kernel
theorem dX10_solve_194 : decode cX10_solve 194 = .ok (.aload_n 0, 1) := by decide +kernel
theorem dX10_solve_195 : decode cX10_solve 195 = .ok (.invokevirtual 63, 3) := by decide +kernel
theorem dX10_solve_198 : decode cX10_solve 198 = .ok (.ireturn, 1) := by decide +kernel
theorem dX10_solve_199 : decode cX10_solve 199 = .ok (.aload_n 0, 1) := by decide +kernel
theorem dX10_solve_200 : decode cX10_solve 200 = .ok (.iload 4, 2) := by decide +kernel
theorem dX10_solve_202 : decode cX10_solve 202 = .ok (.aload 6, 2) := by decide +kernel
theorem dX10_solve_204 : decode cX10_solve 204 = .ok (.getfield 185, 3) := by decide +kernel
theorem dX10_solve_207 : decode cX10_solve 207 = .ok (.aload 8, 2) := by decide +kernel
theorem dX10_solve_209 : decode cX10_solve 209 = .ok (.invokevirtual 158, 3) := by decide +kernel
theorem dX10_solve_212 : decode cX10_solve 212 = .ok (.invokevirtual 155, 3) := by decide +kernel
theorem dX10_solve_215 : decode cX10_solve 215 = .ok (.ireturn, 1) := by decide +kernel
theorem dX10_shape_0 : decode cX10_shape 0 = .ok (.aload_n 0, 1) := by decide +kernel
theorem dX10_shape_1 : decode cX10_shape 1 = .ok (.iload_n 1, 1) := by decide +kernel
theorem dX10_shape_2 : decode cX10_shape 2 = .ok (.invokestatic 42, 3) := by decide +kernel
theorem dX10_shape_5 : decode cX10_shape 5 = .ok (.ifCond .ne 7, 3) := by decide +kernel
theorem dX10_shape_8 : decode cX10_shape 8 = .ok (.iconst 1, 1) := by decide +kernel
theorem dX10_shape_9 : decode cX10_shape 9 = .ok (.goto 4, 3) := by decide +kernel
theorem dX10_shape_12 : decode cX10_shape 12 = .ok (.iconst 0, 1) := by decide +kernel
theorem dX10_shape_13 : decode cX10_shape 13 = .ok (.invokevirtual 105, 3) := by decide +kernel
theorem dX10_shape_16 : decode cX10_shape 16 = .ok (.ifCond .eq 7, 3) := by decide +kernel
theorem dX10_shape_19 : decode cX10_shape 19 = .ok (.iconst 0, 1) := by decide +kernel
theorem dX10_shape_20 : decode cX10_shape 20 = .ok (.goto 28, 3) := by decide +kernel
theorem dX10_shape_23 : decode cX10_shape 23 = .ok (.iload_n 2, 1) := by decide +kernel
theorem dX10_shape_24 : decode cX10_shape 24 = .ok (.ifCond .eq 15, 3) := by decide +kernel
theorem dX10_shape_27 : decode cX10_shape 27 = .ok (.aload_n 0, 1) := by decide +kernel
theorem dX10_shape_28 : decode cX10_shape 28 = .ok (.getfield 21, 3) := by decide +kernel
theorem dX10_shape_31 : decode cX10_shape 31 = .ok (.iload_n 1, 1) := by decide +kernel
theorem dX10_shape_32 : decode cX10_shape 32 = .ok (.aaload, 1) := by decide +kernel
theorem dX10_shape_33 : decode cX10_shape 33 = .ok (.getfield 49, 3) := by decide +kernel
theorem dX10_shape_36 : decode cX10_shape 36 = .ok (.goto 12, 3) := by decide +kernel
theorem dX10_shape_39 : decode cX10_shape 39 = .ok (.aload_n 0, 1) := by decide +kernel
theorem dX10_shape_40 : decode cX10_shape 40 = .ok (.getfield 21, 3) := by decide +kernel
theorem dX10_shape_43 : decode cX10_shape 43 = .ok (.iload_n 1, 1) := by decide +kernel
theorem dX10_shape_44 : decode cX10_shape 44 = .ok (.aaload, 1) := by decide +kernel
theorem dX10_shape_45 : decode cX10_shape 45 = .ok (.getfield 46, 3) := by decide +kernel
theorem dX10_shape_48 : decode cX10_shape 48 = .ok (.ireturn, 1) := by decide +kernel
theorem dX10_at_0 : decode cX10_at 0 = .ok (.aload_n 0, 1) := by decide +kernel
theorem dX10_at_1 : decode cX10_at 1 = .ok (.aload_n 0, 1) := by decide +kernel
theorem dX10_at_2 : decode cX10_at 2 = .ok (.iload_n 1, 1) := by decide +kernel
theorem dX10_at_3 : decode cX10_at 3 = .ok (.iload_n 2, 1) := by decide +kernel
theorem dX10_at_4 : decode cX10_at 4 = .ok (.invokevirtual 56, 3) := by decide +kernel
theorem dX10_at_7 : decode cX10_at 7 = .ok (.ifCond .eq 12, 3) := by decide +kernel
theorem dX10_at_10 : decode cX10_at 10 = .ok (.aload_n 0, 1) := by decide +kernel
theorem dX10_at_11 : decode cX10_at 11 = .ok (.iload_n 1, 1) := by decide +kernel
theorem dX10_at_12 : decode cX10_at 12 = .ok (.iload_n 3, 1) := by decide +kernel
theorem dX10_at_13 : decode cX10_at 13 = .ok (.invokevirtual 52, 3) := by decide +kernel
theorem dX10_at_16 : decode cX10_at 16 = .ok (.ifCond .ne 7, 3) := by decide +kernel
theorem dX10_at_19 : decode cX10_at 19 = .ok (.iconst 1, 1) := by decide +kernel
theorem dX10_at_20 : decode cX10_at 20 = .ok (.goto 4, 3) := by decide +kernel
theorem dX10_at_23 : decode cX10_at 23 = .ok (.iconst 0, 1) := by decide +kernel
theorem dX10_at_24 : decode cX10_at 24 = .ok (.invokevirtual 105, 3) := by decide +kernel
theorem dX10_at_27 : decode cX10_at 27 = .ok (.ifCond .eq 7, 3) := by decide +kernel
theorem dX10_at_30 : decode cX10_at 30 = .ok (.iconst 0, 1) := by decide +kernel
theorem dX10_at_31 : decode cX10_at 31 = .ok (.goto 15, 3) := by decide +kernel
theorem dX10_at_34 : decode cX10_at 34 = .ok (.aload_n 0, 1) := by decide +kernel
theorem dX10_at_35 : decode cX10_at 35 = .ok (.getfield 21, 3) := by decide +kernel
theorem dX10_at_38 : decode cX10_at 38 = .ok (.iload_n 1, 1) := by decide +kernel
theorem dX10_at_39 : decode cX10_at 39 = .ok (.aaload, 1) := by decide +kernel
theorem dX10_at_40 : decode cX10_at 40 = .ok (.iload_n 2, 1) := by decide +kernel
theorem dX10_at_41 : decode cX10_at 41 = .ok (.iload_n 3, 1) := by decide +kernel
theorem dX10_at_42 : decode cX10_at 42 = .ok (.invokevirtual 88, 3) := by decide +kernel
theorem dX10_at_45 : decode cX10_at 45 = .ok (.l2i, 1) := by decide +kernel
theorem dX10_at_46 : decode cX10_at 46 = .ok (.ireturn, 1) := by decide +kernel
theorem dX10_text_0 : decode cX10_text 0 = .ok (.aload_n 0, 1) := by decide +kernel
theorem dX10_text_1 : decode cX10_text 1 = .ok (.iload_n 1, 1) := by decide +kernel
theorem dX10_text_2 : decode cX10_text 2 = .ok (.invokestatic 42, 3) := by decide +kernel
theorem dX10_text_5 : decode cX10_text 5 = .ok (.ifCond .ne 7, 3) := by decide +kernel
theorem dX10_text_8 : decode cX10_text 8 = .ok (.iconst 1, 1) := by decide +kernel
theorem dX10_text_9 : decode cX10_text 9 = .ok (.goto 4, 3) := by decide +kernel
theorem dX10_text_12 : decode cX10_text 12 = .ok (.iconst 0, 1) := by decide +kernel
theorem dX10_text_13 : decode cX10_text 13 = .ok (.invokevirtual 105, 3) := by decide +kernel
theorem dX10_text_16 : decode cX10_text 16 = .ok (.ifCond .eq 6, 3) := by decide +kernel
theorem dX10_text_19 : decode cX10_text 19 = .ok (.ldc 205, 2) := by decide +kernel
theorem dX10_text_21 : decode cX10_text 21 = .ok (.areturn, 1) := by decide +kernel
theorem dX10_text_22 : decode cX10_text 22 = .ok (.new 207, 3) := by decide +kernel
theorem dX10_text_25 : decode cX10_text 25 = .ok (.dup, 1) := by decide +kernel
theorem dX10_text_26 : decode cX10_text 26 = .ok (.invokespecial 209, 3) := by decide +kernel
theorem dX10_text_29 : decode cX10_text 29 = .ok (.astore_n 2, 1) := by decide +kernel
theorem dX10_text_30 : decode cX10_text 30 = .ok (.aload_n 0, 1) := by decide +kernel
theorem dX10_text_31 : decode cX10_text 31 = .ok (.getfield 21, 3) := by decide +kernel
theorem dX10_text_34 : decode cX10_text 34 = .ok (.iload_n 1, 1) := by decide +kernel
theorem dX10_text_35 : decode cX10_text 35 = .ok (.aaload, 1) := by decide +kernel
theorem dX10_text_36 : decode cX10_text 36 = .ok (.astore_n 3, 1) := by decide +kernel
theorem dX10_text_37 : decode cX10_text 37 = .ok (.iconst 0, 1) := by decide +kernel
theorem dX10_text_38 : decode cX10_text 38 = .ok (.istore 4, 2) := by decide +kernel
theorem dX10_text_40 : decode cX10_text 40 = .ok (.iload 4, 2) := by decide +kernel
theorem dX10_text_42 : decode cX10_text 42 = .ok (.aload_n 3, 1) := by decide +kernel
theorem dX10_text_43 : decode cX10_text 43 = .ok (.getfield 46, 3) := by decide +kernel
theorem dX10_text_46 : decode cX10_text 46 = .ok (.if_icmp .ge 65, 3) := by decide +kernel
theorem dX10_text_49 : decode cX10_text 49 = .ok (.iconst 0, 1) := by decide +kernel
theorem dX10_text_50 : decode cX10_text 50 = .ok (.istore 5, 2) := by decide +kernel
theorem dX10_text_52 : decode cX10_text 52 = .ok (.iload 5, 2) := by decide +kernel
theorem dX10_text_54 : decode cX10_text 54 = .ok (.aload_n 3, 1) := by decide +kernel
theorem dX10_text_55 : decode cX10_text 55 = .ok (.getfield 49, 3) := by decide +kernel
theorem dX10_text_58 : decode cX10_text 58 = .ok (.if_icmp .ge 47, 3) := by decide +kernel
theorem dX10_text_61 : decode cX10_text 61 = .ok (.aload_n 2, 1) := by decide +kernel
theorem dX10_text_62 : decode cX10_text 62 = .ok (.iload 5, 2) := by decide +kernel
theorem dX10_text_64 : decode cX10_text 64 = .ok (.ifCond .le 8, 3) := by decide +kernel
theorem dX10_text_67 : decode cX10_text 67 = .ok (.ldc 210, 2) := by decide +kernel
theorem dX10_text_69 : decode cX10_text 69 = .ok (.goto 15, 3) := by decide +kernel
theorem dX10_text_72 : decode cX10_text 72 = .ok (.iload 4, 2) := by decide +kernel
theorem dX10_text_74 : decode cX10_text 74 = .ok (.ifCond .le 8, 3) := by decide +kernel
theorem dX10_text_77 : decode cX10_text 77 = .ok (.ldc 212, 2) := by decide +kernel
theorem dX10_text_79 : decode cX10_text 79 = .ok (.goto 5, 3) := by decide +kernel
theorem dX10_text_82 : decode cX10_text 82 = .ok (.ldc 205, 2) := by decide +kernel
theorem dX10_text_84 : decode cX10_text 84 = .ok (.invokevirtual 214, 3) := by decide +kernel
theorem dX10_text_87 : decode cX10_text 87 = .ok (.aload_n 3, 1) := by decide +kernel
theorem dX10_text_88 : decode cX10_text 88 = .ok (.iload 4, 2) := by decide +kernel
theorem dX10_text_90 : decode cX10_text 90 = .ok (.iload 5, 2) := by decide +kernel
theorem dX10_text_92 : decode cX10_text 92 = .ok (.invokevirtual 88, 3) := by decide +kernel
theorem dX10_text_95 : decode cX10_text 95 = .ok (.invokevirtual 218, 3) := by decide +kernel
theorem dX10_text_98 : decode cX10_text 98 = .ok (.pop, 1) := by decide +kernel
theorem dX10_text_99 : decode cX10_text 99 = .ok (.iinc 5 1, 3) := by decide +kernel
theorem dX10_text_102 : decode cX10_text 102 = .ok (.goto (-50), 3) := by decide +kernel
theorem dX10_text_105 : decode cX10_text 105 = .ok (.iinc 4 1, 3) := by decide +kernel
theorem dX10_text_108 : decode cX10_text 108 = .ok (.goto (-68), 3) := by decide +kernel
theorem dX10_text_111 : decode cX10_text 111 = .ok (.aload_n 2, 1) := by decide +kernel
theorem dX10_text_112 : decode cX10_text 112 = .ok (.invokevirtual 221, 3) := by decide +kernel
theorem dX10_text_115 : decode cX10_text 115 = .ok (.areturn, 1) := by decide +kernel
theorem dX10_isSame_0 : decode cX10_isSame 0 = .ok (.aload_n 0, 1) := by decide +kernel
theorem dX10_isSame_1 : decode cX10_isSame 1 = .ok (.iload_n 1, 1) := by decide +kernel
theorem dX10_isSame_2 : decode cX10_isSame 2 = .ok (.invokestatic 42, 3) := by decide +kernel
theorem dX10_isSame_5 : decode cX10_isSame 5 = .ok (.ifCond .eq 10, 3) := by decide +kernel
theorem dX10_isSame_8 : decode cX10_isSame 8 = .ok (.iload_n 2, 1) := by decide +kernel
theorem dX10_isSame_9 : decode cX10_isSame 9 = .ok (.invokestatic 42, 3) := by decide +kernel
theorem dX10_isSame_12 : decode cX10_isSame 12 = .ok (.ifCond .ne 7, 3) := by decide +kernel
theorem dX10_isSame_15 : decode cX10_isSame 15 = .ok (.iconst 1, 1) := by decide +kernel
theorem dX10_isSame_16 : decode cX10_isSame 16 = .ok (.goto 4, 3) := by decide +kernel
theorem dX10_isSame_19 : decode cX10_isSame 19 = .ok (.iconst 0, 1) := by decide +kernel
theorem dX10_isSame_20 : decode cX10_isSame 20 = .ok (.invokevirtual 105, 3) := by decide +kernel
theorem dX10_isSame_23 : decode cX10_isSame 23 = .ok (.ifCond .ne 25, 3) := by decide +kernel
theorem dX10_isSame_26 : decode cX10_isSame 26 = .ok (.aload_n 0, 1) := by decide +kernel
theorem dX10_isSame_27 : decode cX10_isSame 27 = .ok (.getfield 21, 3) := by decide +kernel
theorem dX10_isSame_30 : decode cX10_isSame 30 = .ok (.iload_n 1, 1) := by decide +kernel
theorem dX10_isSame_31 : decode cX10_isSame 31 = .ok (.aaload, 1) := by decide +kernel
theorem dX10_isSame_32 : decode cX10_isSame 32 = .ok (.aload_n 0, 1) := by decide +kernel
theorem dX10_isSame_33 : decode cX10_isSame 33 = .ok (.getfield 21, 3) := by decide +kernel
theorem dX10_isSame_36 : decode cX10_isSame 36 = .ok (.iload_n 2, 1) := by decide +kernel
theorem dX10_isSame_37 : decode cX10_isSame 37 = .ok (.aaload, 1) := by decide +kernel
theorem dX10_isSame_38 : decode cX10_isSame 38 = .ok (.invokevirtual 108, 3) := by decide +kernel
theorem dX10_isSame_41 : decode cX10_isSame 41 = .ok (.ifCond .eq 7, 3) := by decide +kernel
theorem dX10_isSame_44 : decode cX10_isSame 44 = .ok (.iconst 1, 1) := by decide +kernel
theorem dX10_isSame_45 : decode cX10_isSame 45 = .ok (.goto 4, 3) := by decide +kernel
theorem dX10_isSame_48 : decode cX10_isSame 48 = .ok (.iconst 0, 1) := by decide +kernel
theorem dX10_isSame_49 : decode cX10_isSame 49 = .ok (.ireturn, 1) := by decide +kernel
theorem dX10_determinantOf_0 : decode cX10_determinantOf 0 = .ok (.aload_n 0, 1) := by decide +kernel
theorem dX10_determinantOf_1 : decode cX10_determinantOf 1 = .ok (.iconst 1, 1) := by decide +kernel
theorem dX10_determinantOf_2 : decode cX10_determinantOf 2 = .ok (.aload_n 0, 1) := by decide +kernel
theorem dX10_determinantOf_3 : decode cX10_determinantOf 3 = .ok (.getfield 46, 3) := by decide +kernel
theorem dX10_determinantOf_6 : decode cX10_determinantOf 6 = .ok (.ishl, 1) := by decide +kernel
theorem dX10_determinantOf_7 : decode cX10_determinantOf 7 = .ok (.iconst 1, 1) := by decide +kernel
theorem dX10_determinantOf_8 : decode cX10_determinantOf 8 = .ok (.isub, 1) := by decide +kernel
theorem dX10_determinantOf_9 : decode cX10_determinantOf 9 = .ok (.iconst 1, 1) := by decide +kernel
theorem dX10_determinantOf_10 : decode cX10_determinantOf 10 = .ok (.aload_n 0, 1) := by decide +kernel
theorem dX10_determinantOf_11 : decode cX10_determinantOf 11 = .ok (.getfield 49, 3) := by decide +kernel
theorem dX10_determinantOf_14 : decode cX10_determinantOf 14 = .ok (.ishl, 1) := by decide +kernel
theorem dX10_determinantOf_15 : decode cX10_determinantOf 15 = .ok (.iconst 1, 1) := by decide +kernel
theorem dX10_determinantOf_16 : decode cX10_determinantOf 16 = .ok (.isub, 1) := by decide +kernel
theorem dX10_determinantOf_17 : decode cX10_determinantOf 17 = .ok (.invokevirtual 225, 3) := by decide +kernel
theorem dX10_determinantOf_20 : decode cX10_determinantOf 20 = .ok (.lreturn, 1) := by decide +kernel
theorem dX10_bySequences_0 : decode cX10_bySequences 0 = .ok (.iload_n 1, 1) := by decide +kernel
theorem dX10_bySequences_1 : decode cX10_bySequences 1 = .ok (.aload_n 0, 1) := by decide +kernel
theorem dX10_bySequences_2 : decode cX10_bySequences 2 = .ok (.getfield 46, 3) := by decide +kernel
theorem dX10_bySequences_5 : decode cX10_bySequences 5 = .ok (.if_icmp .ne 5, 3) := by decide +kernel
theorem dX10_bySequences_8 : decode cX10_bySequences 8 = .ok (.lconst 1, 1) := by decide +kernel
theorem dX10_bySequences_9 : decode cX10_bySequences 9 = .ok (.lreturn, 1) := by decide +kernel
theorem dX10_bySequences_10 : decode cX10_bySequences 10 = .ok (.lconst 0, 1) := by decide +kernel
theorem dX10_bySequences_11 : decode cX10_bySequences 11 = .ok (.lstore_n 3, 1) := by decide +kernel
theorem dX10_bySequences_12 : decode cX10_bySequences 12 = .ok (.iconst 0, 1) := by decide +kernel
theorem dX10_bySequences_13 : decode cX10_bySequences 13 = .ok (.istore 5, 2) := by decide +kernel
theorem dX10_bySequences_15 : decode cX10_bySequences 15 = .ok (.iload 5, 2) := by decide +kernel
theorem dX10_bySequences_17 : decode cX10_bySequences 17 = .ok (.aload_n 0, 1) := by decide +kernel
theorem dX10_bySequences_18 : decode cX10_bySequences 18 = .ok (.getfield 49, 3) := by decide +kernel
theorem dX10_bySequences_21 : decode cX10_bySequences 21 = .ok (.if_icmp .ge 71, 3) := by decide +kernel
theorem dX10_bySequences_24 : decode cX10_bySequences 24 = .ok (.iload_n 2, 1) := by decide +kernel
theorem dX10_bySequences_25 : decode cX10_bySequences 25 = .ok (.iload 5, 2) := by decide +kernel
theorem dX10_bySequences_27 : decode cX10_bySequences 27 = .ok (.ishr, 1) := by decide +kernel
theorem dX10_bySequences_28 : decode cX10_bySequences 28 = .ok (.iconst 1, 1) := by decide +kernel
theorem dX10_bySequences_29 : decode cX10_bySequences 29 = .ok (.iand, 1) := by decide +kernel
theorem dX10_bySequences_30 : decode cX10_bySequences 30 = .ok (.iconst 1, 1) := by decide +kernel
theorem dX10_bySequences_31 : decode cX10_bySequences 31 = .ok (.if_icmp .ne 6, 3) := by decide +kernel
theorem dX10_bySequences_34 : decode cX10_bySequences 34 = .ok (.goto 52, 3) := by decide +kernel
theorem dX10_bySequences_37 : decode cX10_bySequences 37 = .ok (.iload_n 2, 1) := by decide +kernel
theorem dX10_bySequences_38 : decode cX10_bySequences 38 = .ok (.iload 5, 2) := by decide +kernel
theorem dX10_bySequences_40 : decode cX10_bySequences 40 = .ok (.iconst 1, 1) := by decide +kernel
theorem dX10_bySequences_41 : decode cX10_bySequences 41 = .ok (.iadd, 1) := by decide +kernel
theorem dX10_bySequences_42 : decode cX10_bySequences 42 = .ok (.ishr, 1) := by decide +kernel
theorem dX10_bySequences_43 : decode cX10_bySequences 43 = .ok (.invokestatic 228, 3) := by decide +kernel
theorem dX10_bySequences_46 : decode cX10_bySequences 46 = .ok (.iconst 2, 1) := by decide +kernel
theorem dX10_bySequences_47 : decode cX10_bySequences 47 = .ok (.irem, 1) := by decide +kernel
theorem dX10_bySequences_48 : decode cX10_bySequences 48 = .ok (.ifCond .ne 7, 3) := by decide +kernel
theorem dX10_bySequences_51 : decode cX10_bySequences 51 = .ok (.iconst 1, 1) := by decide +kernel
theorem dX10_bySequences_52 : decode cX10_bySequences 52 = .ok (.goto 4, 3) := by decide +kernel
theorem dX10_bySequences_55 : decode cX10_bySequences 55 = .ok (.iconst (-1), 1) := by decide +kernel
theorem dX10_bySequences_56 : decode cX10_bySequences 56 = .ok (.istore 6, 2) := by decide +kernel
theorem dX10_bySequences_58 : decode cX10_bySequences 58 = .ok (.lload_n 3, 1) := by decide +kernel
theorem dX10_bySequences_59 : decode cX10_bySequences 59 = .ok (.iload 6, 2) := by decide +kernel
theorem dX10_bySequences_61 : decode cX10_bySequences 61 = .ok (.i2l, 1) := by decide +kernel
theorem dX10_bySequences_62 : decode cX10_bySequences 62 = .ok (.aload_n 0, 1) := by decide +kernel
theorem dX10_bySequences_63 : decode cX10_bySequences 63 = .ok (.iload_n 1, 1) := by decide +kernel
theorem dX10_bySequences_64 : decode cX10_bySequences 64 = .ok (.iload 5, 2) := by decide +kernel
theorem dX10_bySequences_66 : decode cX10_bySequences 66 = .ok (.invokevirtual 88, 3) := by decide +kernel
theorem dX10_bySequences_69 : decode cX10_bySequences 69 = .ok (.lmul, 1) := by decide +kernel
theorem dX10_bySequences_70 : decode cX10_bySequences 70 = .ok (.aload_n 0, 1) := by decide +kernel
theorem dX10_bySequences_71 : decode cX10_bySequences 71 = .ok (.iload_n 1, 1) := by decide +kernel
theorem dX10_bySequences_72 : decode cX10_bySequences 72 = .ok (.iconst 1, 1) := by decide +kernel
theorem dX10_bySequences_73 : decode cX10_bySequences 73 = .ok (.iadd, 1) := by decide +kernel
theorem dX10_bySequences_74 : decode cX10_bySequences 74 = .ok (.iload_n 2, 1) := by decide +kernel
theorem dX10_bySequences_75 : decode cX10_bySequences 75 = .ok (.iconst 1, 1) := by decide +kernel
theorem dX10_bySequences_76 : decode cX10_bySequences 76 = .ok (.iload 5, 2) := by decide +kernel
theorem dX10_bySequences_78 : decode cX10_bySequences 78 = .ok (.ishl, 1) := by decide +kernel
theorem dX10_bySequences_79 : decode cX10_bySequences 79 = .ok (.ior, 1) := by decide +kernel
theorem dX10_bySequences_80 : decode cX10_bySequences 80 = .ok (.invokestatic 233, 3) := by decide +kernel
theorem dX10_bySequences_83 : decode cX10_bySequences 83 = .ok (.lmul, 1) := by decide +kernel
theorem dX10_bySequences_84 : decode cX10_bySequences 84 = .ok (.ladd, 1) := by decide +kernel
theorem dX10_bySequences_85 : decode cX10_bySequences 85 = .ok (.lstore_n 3, 1) := by decide +kernel
theorem dX10_bySequences_86 : decode cX10_bySequences 86 = .ok (.iinc 5 1, 3) := by decide +kernel
theorem dX10_bySequences_89 : decode cX10_bySequences 89 = .ok (.goto (-74), 3) := by decide +kernel
theorem dX10_bySequences_92 : decode cX10_bySequences 92 = .ok (.lload_n 3, 1) := by decide +kernel
theorem dX10_bySequences_93 : decode cX10_bySequences 93 = .ok (.lreturn, 1) := by decide +kernel
theorem dX10_determinant_0 : decode cX10_determinant 0 = .ok (.aload_n 0, 1) := by decide +kernel
theorem dX10_determinant_1 : decode cX10_determinant 1 = .ok (.iload_n 1, 1) := by decide +kernel
theorem dX10_determinant_2 : decode cX10_determinant 2 = .ok (.invokestatic 42, 3) := by decide +kernel
theorem dX10_determinant_5 : decode cX10_determinant 5 = .ok (.ifCond .ne 7, 3) := by decide +kernel
theorem dX10_determinant_8 : decode cX10_determinant 8 = .ok (.iconst 1, 1) := by decide +kernel
theorem dX10_determinant_9 : decode cX10_determinant 9 = .ok (.goto 4, 3) := by decide +kernel
theorem dX10_determinant_12 : decode cX10_determinant 12 = .ok (.iconst 0, 1) := by decide +kernel
theorem dX10_determinant_13 : decode cX10_determinant 13 = .ok (.iload_n 2, 1) := by decide +kernel
theorem dX10_determinant_14 : decode cX10_determinant 14 = .ok (.ifCond .lt 8, 3) := by decide +kernel
theorem dX10_determinant_17 : decode cX10_determinant 17 = .ok (.iload_n 2, 1) := by decide +kernel
theorem dX10_determinant_18 : decode cX10_determinant 18 = .ok (.iconst 2, 1) := by decide +kernel
theorem dX10_determinant_19 : decode cX10_determinant 19 = .ok (.if_icmp .le 7, 3) := by decide +kernel
theorem dX10_determinant_22 : decode cX10_determinant 22 = .ok (.iconst 1, 1) := by decide +kernel
theorem dX10_determinant_23 : decode cX10_determinant 23 = .ok (.goto 4, 3) := by decide +kernel
theorem dX10_determinant_26 : decode cX10_determinant 26 = .ok (.iconst 0, 1) := by decide +kernel
theorem dX10_determinant_27 : decode cX10_determinant 27 = .ok (.invokevirtual 77, 3) := by decide +kernel
theorem dX10_determinant_30 : decode cX10_determinant 30 = .ok (.ifCond .eq 5, 3) := by decide +kernel
theorem dX10_determinant_33 : decode cX10_determinant 33 = .ok (.iconst 0, 1) := by decide +kernel
theorem dX10_determinant_34 : decode cX10_determinant 34 = .ok (.ireturn, 1) := by decide +kernel
theorem dX10_determinant_35 : decode cX10_determinant 35 = .ok (.aload_n 0, 1) := by decide +kernel
theorem dX10_determinant_36 : decode cX10_determinant 36 = .ok (.getfield 21, 3) := by decide +kernel
theorem dX10_determinant_39 : decode cX10_determinant 39 = .ok (.iload_n 1, 1) := by decide +kernel
theorem dX10_determinant_40 : decode cX10_determinant 40 = .ok (.aaload, 1) := by decide +kernel
theorem dX10_determinant_41 : decode cX10_determinant 41 = .ok (.astore_n 3, 1) := by decide +kernel
theorem dX10_determinant_42 : decode cX10_determinant 42 = .ok (.iload_n 2, 1) := by decide +kernel
theorem dX10_determinant_43 : decode cX10_determinant 43 = .ok (.iconst 2, 1) := by decide +kernel
theorem dX10_determinant_44 : decode cX10_determinant 44 = .ok (.if_icmp .ne 25, 3) := by decide +kernel
theorem dX10_determinant_47 : decode cX10_determinant 47 = .ok (.aload_n 3, 1) := by decide +kernel
theorem dX10_determinant_48 : decode cX10_determinant 48 = .ok (.getfield 46, 3) := by decide +kernel
theorem dX10_determinant_51 : decode cX10_determinant 51 = .ok (.aload_n 3, 1) := by decide +kernel
theorem dX10_determinant_52 : decode cX10_determinant 52 = .ok (.getfield 49, 3) := by decide +kernel
theorem dX10_determinant_55 : decode cX10_determinant 55 = .ok (.if_icmp .ne 14, 3) := by decide +kernel
theorem dX10_determinant_58 : decode cX10_determinant 58 = .ok (.new 161, 3) := by decide +kernel
theorem dX10_determinant_61 : decode cX10_determinant 61 = .ok (.dup, 1) := by decide +kernel
theorem dX10_determinant_62 : decode cX10_determinant 62 = .ok (.aload_n 3, 1) := by decide +kernel
theorem dX10_determinant_63 : decode cX10_determinant 63 = .ok (.invokespecial 163, 3) := by decide +kernel
theorem dX10_determinant_66 : decode cX10_determinant 66 = .ok (.goto 4, 3) := by decide +kernel
theorem dX10_determinant_69 : decode cX10_determinant 69 = .ok (.aconst_null, 1) := by decide +kernel
theorem dX10_determinant_70 : decode cX10_determinant 70 = .ok (.astore 4, 2) := by decide +kernel
theorem dX10_determinant_72 : decode cX10_determinant 72 = .ok (.aload_n 0, 1) := by decide +kernel
theorem dX10_determinant_73 : decode cX10_determinant 73 = .ok (.iconst 0, 1) := by decide +kernel
theorem dX10_determinant_74 : decode cX10_determinant 74 = .ok (.iconst 0, 1) := by decide +kernel
theorem dX10_determinant_75 : decode cX10_determinant 75 = .ok (.aload_n 3, 1) := by decide +kernel
theorem dX10_determinant_76 : decode cX10_determinant 76 = .ok (.getfield 46, 3) := by decide +kernel
theorem dX10_determinant_79 : decode cX10_determinant 79 = .ok (.aload_n 3, 1) := by decide +kernel
theorem dX10_determinant_80 : decode cX10_determinant 80 = .ok (.getfield 49, 3) := by decide +kernel
theorem dX10_determinant_83 : decode cX10_determinant 83 = .ok (.if_icmp .ne 16, 3) := by decide +kernel
theorem dX10_determinant_86 : decode cX10_determinant 86 = .ok (.aload 4, 2) := by decide +kernel
theorem dX10_determinant_88 : decode cX10_determinant 88 = .ok (.ifnull 15, 3) := by decide +kernel
theorem dX10_determinant_91 : decode cX10_determinant 91 = .ok (.aload 4, 2) := by decide +kernel
theorem dX10_determinant_93 : decode cX10_determinant 93 = .ok (.getfield 166, 3) := by decide +kernel
theorem dX10_determinant_96 : decode cX10_determinant 96 = .ok (.ifCond .eq 7, 3) := by decide +kernel
theorem dX10_determinant_99 : decode cX10_determinant 99 = .ok (.iconst 1, 1) := by decide +kernel
theorem dX10_determinant_100 : decode cX10_determinant 100 = .ok (.goto 4, 3) := by decide +kernel
theorem dX10_determinant_103 : decode cX10_determinant 103 = .ok (.iconst 0, 1) := by decide +kernel
theorem dX10_determinant_104 : decode cX10_determinant 104 = .ok (.invokevirtual 32, 3) := by decide +kernel
theorem dX10_determinant_107 : decode cX10_determinant 107 = .ok (.ifCond .eq 5, 3) := by decide +kernel
theorem dX10_determinant_110 : decode cX10_determinant 110 = .ok (.iconst 0, 1) := by decide +kernel
theorem dX10_determinant_111 : decode cX10_determinant 111 = .ok (.ireturn, 1) := by decide +kernel
theorem dX10_determinant_112 : decode cX10_determinant 112 = .ok (.iload_n 2, 1) := by decide +kernel
theorem dX10_determinant_113 : decode cX10_determinant 113 = .ok (.ifCond .ne 9, 3) := by decide +kernel
theorem dX10_determinant_116 : decode cX10_determinant 116 = .ok (.aload_n 3, 1) := by decide +kernel
theorem dX10_determinant_117 : decode cX10_determinant 117 = .ok (.invokestatic 237, 3) := by decide +kernel
theorem dX10_determinant_120 : decode cX10_determinant 120 = .ok (.l2i, 1) := by decide +kernel
theorem dX10_determinant_121 : decode cX10_determinant 121 = .ok (.ireturn, 1) := by decide +kernel
theorem dX10_determinant_122 : decode cX10_determinant 122 = .ok (.iload_n 2, 1) := by decide +kernel
theorem dX10_determinant_123 : decode cX10_determinant 123 = .ok (.iconst 1, 1) := by decide +kernel
theorem dX10_determinant_124 : decode cX10_determinant 124 = .ok (.if_icmp .ne 11, 3) := by decide +kernel
theorem dX10_determinant_127 : decode cX10_determinant 127 = .ok (.aload_n 3, 1) := by decide +kernel
theorem dX10_determinant_128 : decode cX10_determinant 128 = .ok (.iconst 0, 1) := by decide +kernel
theorem dX10_determinant_129 : decode cX10_determinant 129 = .ok (.iconst 0, 1) := by decide +kernel
theorem dX10_determinant_130 : decode cX10_determinant 130 = .ok (.invokestatic 233, 3) := by decide +kernel
theorem dX10_determinant_133 : decode cX10_determinant 133 = .ok (.l2i, 1) := by decide +kernel
theorem dX10_determinant_134 : decode cX10_determinant 134 = .ok (.ireturn, 1) := by decide +kernel
theorem dX10_determinant_135 : decode cX10_determinant 135 = .ok (.aload 4, 2) := by decide +kernel
theorem dX10_determinant_137 : decode cX10_determinant 137 = .ok (.getfield 241, 3) := by decide +kernel
theorem dX10_determinant_140 : decode cX10_determinant 140 = .ok (.i2l, 1) := by decide +kernel
theorem dX10_determinant_141 : decode cX10_determinant 141 = .ok (.lstore 5, 2) := by decide +kernel
theorem dX10_determinant_143 : decode cX10_determinant 143 = .ok (.iconst 0, 1) := by decide +kernel
theorem dX10_determinant_144 : decode cX10_determinant 144 = .ok (.istore 7, 2) := by decide +kernel
theorem dX10_determinant_146 : decode cX10_determinant 146 = .ok (.iload 7, 2) := by decide +kernel
theorem dX10_determinant_148 : decode cX10_determinant 148 = .ok (.aload_n 3, 1) := by decide +kernel
theorem dX10_determinant_149 : decode cX10_determinant 149 = .ok (.getfield 46, 3) := by decide +kernel
theorem dX10_determinant_152 : decode cX10_determinant 152 = .ok (.if_icmp .ge 26, 3) := by decide +kernel
theorem dX10_determinant_155 : decode cX10_determinant 155 = .ok (.lload 5, 2) := by decide +kernel
theorem dX10_determinant_157 : decode cX10_determinant 157 = .ok (.aload 4, 2) := by decide +kernel
theorem dX10_determinant_159 : decode cX10_determinant 159 = .ok (.getfield 170, 3) := by decide +kernel
theorem dX10_determinant_162 : decode cX10_determinant 162 = .ok (.iload 7, 2) := by decide +kernel
theorem dX10_determinant_164 : decode cX10_determinant 164 = .ok (.iload 7, 2) := by decide +kernel
theorem dX10_determinant_166 : decode cX10_determinant 166 = .ok (.invokevirtual 88, 3) := by decide +kernel
theorem dX10_determinant_169 : decode cX10_determinant 169 = .ok (.lmul, 1) := by decide +kernel
theorem dX10_determinant_170 : decode cX10_determinant 170 = .ok (.lstore 5, 2) := by decide +kernel
theorem dX10_determinant_172 : decode cX10_determinant 172 = .ok (.iinc 7 1, 3) := by decide +kernel
theorem dX10_determinant_175 : decode cX10_determinant 175 = .ok (.goto (-29), 3) := by decide +kernel
theorem dX10_determinant_178 : decode cX10_determinant 178 = .ok (.lload 5, 2) := by decide +kernel
theorem dX10_determinant_180 : decode cX10_determinant 180 = .ok (.l2i, 1) := by decide +kernel
theorem dX10_determinant_181 : decode cX10_determinant 181 = .ok (.ireturn, 1) := by decide +kernel
theorem dX10_minor_0 : decode cX10_minor 0 = .ok (.aload_n 0, 1) := by decide +kernel
theorem dX10_minor_1 : decode cX10_minor 1 = .ok (.iload_n 1, 1) := by decide +kernel
theorem dX10_minor_2 : decode cX10_minor 2 = .ok (.invokestatic 42, 3) := by decide +kernel
theorem dX10_minor_5 : decode cX10_minor 5 = .ok (.ifCond .ne 7, 3) := by decide +kernel
theorem dX10_minor_8 : decode cX10_minor 8 = .ok (.iconst 1, 1) := by decide +kernel
theorem dX10_minor_9 : decode cX10_minor 9 = .ok (.goto 4, 3) := by decide +kernel
theorem dX10_minor_12 : decode cX10_minor 12 = .ok (.iconst 0, 1) := by decide +kernel
theorem dX10_minor_13 : decode cX10_minor 13 = .ok (.invokevirtual 105, 3) := by decide +kernel
theorem dX10_minor_16 : decode cX10_minor 16 = .ok (.ifCond .eq 5, 3) := by decide +kernel
theorem dX10_minor_19 : decode cX10_minor 19 = .ok (.iconst 0, 1) := by decide +kernel
theorem dX10_minor_20 : decode cX10_minor 20 = .ok (.ireturn, 1) := by decide +kernel
theorem dX10_minor_21 : decode cX10_minor 21 = .ok (.aload_n 0, 1) := by decide +kernel
theorem dX10_minor_22 : decode cX10_minor 22 = .ok (.getfield 21, 3) := by decide +kernel
theorem dX10_minor_25 : decode cX10_minor 25 = .ok (.iload_n 1, 1) := by decide +kernel
theorem dX10_minor_26 : decode cX10_minor 26 = .ok (.aaload, 1) := by decide +kernel
theorem dX10_minor_27 : decode cX10_minor 27 = .ok (.astore 4, 2) := by decide +kernel
theorem dX10_minor_29 : decode cX10_minor 29 = .ok (.aload_n 0, 1) := by decide +kernel
theorem dX10_minor_30 : decode cX10_minor 30 = .ok (.iconst 0, 1) := by decide +kernel
theorem dX10_minor_31 : decode cX10_minor 31 = .ok (.iload_n 2, 1) := by decide +kernel
theorem dX10_minor_32 : decode cX10_minor 32 = .ok (.iconst 1, 1) := by decide +kernel
theorem dX10_minor_33 : decode cX10_minor 33 = .ok (.if_icmp .lt 39, 3) := by decide +kernel
theorem dX10_minor_36 : decode cX10_minor 36 = .ok (.iload_n 3, 1) := by decide +kernel
theorem dX10_minor_37 : decode cX10_minor 37 = .ok (.iconst 1, 1) := by decide +kernel
theorem dX10_minor_38 : decode cX10_minor 38 = .ok (.if_icmp .lt 34, 3) := by decide +kernel
theorem dX10_minor_41 : decode cX10_minor 41 = .ok (.iload_n 2, 1) := by decide +kernel
theorem dX10_minor_42 : decode cX10_minor 42 = .ok (.aload 4, 2) := by decide +kernel
theorem dX10_minor_44 : decode cX10_minor 44 = .ok (.getfield 46, 3) := by decide +kernel
theorem dX10_minor_47 : decode cX10_minor 47 = .ok (.ishr, 1) := by decide +kernel
theorem dX10_minor_48 : decode cX10_minor 48 = .ok (.ifCond .ne 24, 3) := by decide +kernel
theorem dX10_minor_51 : decode cX10_minor 51 = .ok (.iload_n 3, 1) := by decide +kernel
theorem dX10_minor_52 : decode cX10_minor 52 = .ok (.aload 4, 2) := by decide +kernel
theorem dX10_minor_54 : decode cX10_minor 54 = .ok (.getfield 49, 3) := by decide +kernel
theorem dX10_minor_57 : decode cX10_minor 57 = .ok (.ishr, 1) := by decide +kernel
theorem dX10_minor_58 : decode cX10_minor 58 = .ok (.ifCond .ne 14, 3) := by decide +kernel
theorem dX10_minor_61 : decode cX10_minor 61 = .ok (.iload_n 2, 1) := by decide +kernel
theorem dX10_minor_62 : decode cX10_minor 62 = .ok (.invokestatic 228, 3) := by decide +kernel
theorem dX10_minor_65 : decode cX10_minor 65 = .ok (.iload_n 3, 1) := by decide +kernel
theorem dX10_minor_66 : decode cX10_minor 66 = .ok (.invokestatic 228, 3) := by decide +kernel
theorem dX10_minor_69 : decode cX10_minor 69 = .ok (.if_icmp .eq 7, 3) := by decide +kernel
theorem dX10_minor_72 : decode cX10_minor 72 = .ok (.iconst 1, 1) := by decide +kernel
theorem dX10_minor_73 : decode cX10_minor 73 = .ok (.goto 4, 3) := by decide +kernel
theorem dX10_minor_76 : decode cX10_minor 76 = .ok (.iconst 0, 1) := by decide +kernel
theorem dX10_minor_77 : decode cX10_minor 77 = .ok (.invokevirtual 77, 3) := by decide +kernel
theorem dX10_minor_80 : decode cX10_minor 80 = .ok (.ifCond .eq 5, 3) := by decide +kernel
theorem dX10_minor_83 : decode cX10_minor 83 = .ok (.iconst 0, 1) := by decide +kernel
theorem dX10_minor_84 : decode cX10_minor 84 = .ok (.ireturn, 1) := by decide +kernel
theorem dX10_minor_85 : decode cX10_minor 85 = .ok (.aload 4, 2) := by decide +kernel
theorem dX10_minor_87 : decode cX10_minor 87 = .ok (.iload_n 2, 1) := by decide +kernel
theorem dX10_minor_88 : decode cX10_minor 88 = .ok (.iload_n 3, 1) := by decide +kernel
theorem dX10_minor_89 : decode cX10_minor 89 = .ok (.invokevirtual 225, 3) := by decide +kernel
theorem dX10_minor_92 : decode cX10_minor 92 = .ok (.l2i, 1) := by decide +kernel
theorem dX10_minor_93 : decode cX10_minor 93 = .ok (.ireturn, 1) := by decide +kernel
theorem dX10_divisor_0 : decode cX10_divisor 0 = .ok (.aload_n 0, 1) := by decide +kernel
theorem dX10_divisor_1 : decode cX10_divisor 1 = .ok (.iload_n 1, 1) := by decide +kernel
theorem dX10_divisor_2 : decode cX10_divisor 2 = .ok (.invokestatic 42, 3) := by decide +kernel
theorem dX10_divisor_5 : decode cX10_divisor 5 = .ok (.ifCond .ne 7, 3) := by decide +kernel
theorem dX10_divisor_8 : decode cX10_divisor 8 = .ok (.iconst 1, 1) := by decide +kernel
theorem dX10_divisor_9 : decode cX10_divisor 9 = .ok (.goto 4, 3) := by decide +kernel
theorem dX10_divisor_12 : decode cX10_divisor 12 = .ok (.iconst 0, 1) := by decide +kernel
theorem dX10_divisor_13 : decode cX10_divisor 13 = .ok (.invokevirtual 105, 3) := by decide +kernel
theorem dX10_divisor_16 : decode cX10_divisor 16 = .ok (.ifCond .eq 5, 3) := by decide +kernel
theorem dX10_divisor_19 : decode cX10_divisor 19 = .ok (.iconst 0, 1) := by decide +kernel
theorem dX10_divisor_20 : decode cX10_divisor 20 = .ok (.ireturn, 1) := by decide +kernel
theorem dX10_divisor_21 : decode cX10_divisor 21 = .ok (.aload_n 0, 1) := by decide +kernel
theorem dX10_divisor_22 : decode cX10_divisor 22 = .ok (.getfield 21, 3) := by decide +kernel
theorem dX10_divisor_25 : decode cX10_divisor 25 = .ok (.iload_n 1, 1) := by decide +kernel
theorem dX10_divisor_26 : decode cX10_divisor 26 = .ok (.aaload, 1) := by decide +kernel
theorem dX10_divisor_27 : decode cX10_divisor 27 = .ok (.astore_n 3, 1) := by decide +kernel
theorem dX10_divisor_28 : decode cX10_divisor 28 = .ok (.aload_n 0, 1) := by decide +kernel
theorem dX10_divisor_29 : decode cX10_divisor 29 = .ok (.iconst 0, 1) := by decide +kernel
theorem dX10_divisor_30 : decode cX10_divisor 30 = .ok (.iload_n 2, 1) := by decide +kernel
theorem dX10_divisor_31 : decode cX10_divisor 31 = .ok (.ifCond .lt 18, 3) := by decide +kernel
theorem dX10_divisor_34 : decode cX10_divisor 34 = .ok (.iload_n 2, 1) := by decide +kernel
theorem dX10_divisor_35 : decode cX10_divisor 35 = .ok (.aload_n 3, 1) := by decide +kernel
theorem dX10_divisor_36 : decode cX10_divisor 36 = .ok (.getfield 46, 3) := by decide +kernel
theorem dX10_divisor_39 : decode cX10_divisor 39 = .ok (.aload_n 3, 1) := by decide +kernel
theorem dX10_divisor_40 : decode cX10_divisor 40 = .ok (.getfield 49, 3) := by decide +kernel
theorem dX10_divisor_43 : decode cX10_divisor 43 = .ok (.invokestatic 244, 3) := by decide +kernel
theorem dX10_divisor_46 : decode cX10_divisor 46 = .ok (.if_icmp .le 7, 3) := by decide +kernel
theorem dX10_divisor_49 : decode cX10_divisor 49 = .ok (.iconst 1, 1) := by decide +kernel
theorem dX10_divisor_50 : decode cX10_divisor 50 = .ok (.goto 4, 3) := by decide +kernel
theorem dX10_divisor_53 : decode cX10_divisor 53 = .ok (.iconst 0, 1) := by decide +kernel
theorem dX10_divisor_54 : decode cX10_divisor 54 = .ok (.invokevirtual 77, 3) := by decide +kernel
theorem dX10_divisor_57 : decode cX10_divisor 57 = .ok (.ifCond .eq 7, 3) := by decide +kernel
theorem dX10_divisor_60 : decode cX10_divisor 60 = .ok (.iconst 0, 1) := by decide +kernel
theorem dX10_divisor_61 : decode cX10_divisor 61 = .ok (.goto 9, 3) := by decide +kernel
theorem dX10_divisor_64 : decode cX10_divisor 64 = .ok (.aload_n 3, 1) := by decide +kernel
theorem dX10_divisor_65 : decode cX10_divisor 65 = .ok (.iload_n 2, 1) := by decide +kernel
theorem dX10_divisor_66 : decode cX10_divisor 66 = .ok (.invokevirtual 248, 3) := by decide +kernel
theorem dX10_divisor_69 : decode cX10_divisor 69 = .ok (.l2i, 1) := by decide +kernel
theorem dX10_divisor_70 : decode cX10_divisor 70 = .ok (.ireturn, 1) := by decide +kernel
theorem dX10_rank_0 : decode cX10_rank 0 = .ok (.aload_n 0, 1) := by decide +kernel
theorem dX10_rank_1 : decode cX10_rank 1 = .ok (.iload_n 1, 1) := by decide +kernel
theorem dX10_rank_2 : decode cX10_rank 2 = .ok (.invokestatic 42, 3) := by decide +kernel
theorem dX10_rank_5 : decode cX10_rank 5 = .ok (.ifCond .ne 7, 3) := by decide +kernel
theorem dX10_rank_8 : decode cX10_rank 8 = .ok (.iconst 1, 1) := by decide +kernel
theorem dX10_rank_9 : decode cX10_rank 9 = .ok (.goto 4, 3) := by decide +kernel
theorem dX10_rank_12 : decode cX10_rank 12 = .ok (.iconst 0, 1) := by decide +kernel
theorem dX10_rank_13 : decode cX10_rank 13 = .ok (.iload_n 2, 1) := by decide +kernel
theorem dX10_rank_14 : decode cX10_rank 14 = .ok (.ifCond .lt 8, 3) := by decide +kernel
theorem dX10_rank_17 : decode cX10_rank 17 = .ok (.iload_n 2, 1) := by decide +kernel
theorem dX10_rank_18 : decode cX10_rank 18 = .ok (.iconst 1, 1) := by decide +kernel
theorem dX10_rank_19 : decode cX10_rank 19 = .ok (.if_icmp .le 7, 3) := by decide +kernel
theorem dX10_rank_22 : decode cX10_rank 22 = .ok (.iconst 1, 1) := by decide +kernel
theorem dX10_rank_23 : decode cX10_rank 23 = .ok (.goto 4, 3) := by decide +kernel
theorem dX10_rank_26 : decode cX10_rank 26 = .ok (.iconst 0, 1) := by decide +kernel
theorem dX10_rank_27 : decode cX10_rank 27 = .ok (.invokevirtual 77, 3) := by decide +kernel
theorem dX10_rank_30 : decode cX10_rank 30 = .ok (.ifCond .eq 5, 3) := by decide +kernel
theorem dX10_rank_33 : decode cX10_rank 33 = .ok (.iconst 0, 1) := by decide +kernel
theorem dX10_rank_34 : decode cX10_rank 34 = .ok (.ireturn, 1) := by decide +kernel
theorem dX10_rank_35 : decode cX10_rank 35 = .ok (.iload_n 2, 1) := by decide +kernel
theorem dX10_rank_36 : decode cX10_rank 36 = .ok (.ifCond .ne 13, 3) := by decide +kernel
theorem dX10_rank_39 : decode cX10_rank 39 = .ok (.aload_n 0, 1) := by decide +kernel
theorem dX10_rank_40 : decode cX10_rank 40 = .ok (.getfield 21, 3) := by decide +kernel
theorem dX10_rank_43 : decode cX10_rank 43 = .ok (.iload_n 1, 1) := by decide +kernel
theorem dX10_rank_44 : decode cX10_rank 44 = .ok (.aaload, 1) := by decide +kernel
theorem dX10_rank_45 : decode cX10_rank 45 = .ok (.invokevirtual 252, 3) := by decide +kernel
theorem dX10_rank_48 : decode cX10_rank 48 = .ok (.ireturn, 1) := by decide +kernel
theorem dX10_rank_49 : decode cX10_rank 49 = .ok (.new 161, 3) := by decide +kernel
theorem dX10_rank_52 : decode cX10_rank 52 = .ok (.dup, 1) := by decide +kernel
theorem dX10_rank_53 : decode cX10_rank 53 = .ok (.aload_n 0, 1) := by decide +kernel
theorem dX10_rank_54 : decode cX10_rank 54 = .ok (.getfield 21, 3) := by decide +kernel
theorem dX10_rank_57 : decode cX10_rank 57 = .ok (.iload_n 1, 1) := by decide +kernel
theorem dX10_rank_58 : decode cX10_rank 58 = .ok (.aaload, 1) := by decide +kernel
theorem dX10_rank_59 : decode cX10_rank 59 = .ok (.invokespecial 163, 3) := by decide +kernel
theorem dX10_rank_62 : decode cX10_rank 62 = .ok (.astore_n 3, 1) := by decide +kernel
theorem dX10_rank_63 : decode cX10_rank 63 = .ok (.aload_n 0, 1) := by decide +kernel
theorem dX10_rank_64 : decode cX10_rank 64 = .ok (.iconst 0, 1) := by decide +kernel
theorem dX10_rank_65 : decode cX10_rank 65 = .ok (.iconst 0, 1) := by decide +kernel
theorem dX10_rank_66 : decode cX10_rank 66 = .ok (.aload_n 3, 1) := by decide +kernel
theorem dX10_rank_67 : decode cX10_rank 67 = .ok (.getfield 166, 3) := by decide +kernel
theorem dX10_rank_70 : decode cX10_rank 70 = .ok (.invokevirtual 32, 3) := by decide +kernel
theorem dX10_rank_73 : decode cX10_rank 73 = .ok (.ifCond .eq 7, 3) := by decide +kernel
theorem dX10_rank_76 : decode cX10_rank 76 = .ok (.iconst 0, 1) := by decide +kernel
theorem dX10_rank_77 : decode cX10_rank 77 = .ok (.goto 7, 3) := by decide +kernel
theorem dX10_rank_80 : decode cX10_rank 80 = .ok (.aload_n 3, 1) := by decide +kernel
theorem dX10_rank_81 : decode cX10_rank 81 = .ok (.invokevirtual 254, 3) := by decide +kernel
theorem dX10_rank_84 : decode cX10_rank 84 = .ok (.ireturn, 1) := by decide +kernel
theorem dX10_told__0 : decode cX10_told_ 0 = .ok (.aload_n 0, 1) := by decide +kernel
theorem dX10_told__1 : decode cX10_told_ 1 = .ok (.iload_n 1, 1) := by decide +kernel
theorem dX10_told__2 : decode cX10_told_ 2 = .ok (.invokestatic 42, 3) := by decide +kernel
theorem dX10_told__5 : decode cX10_told_ 5 = .ok (.ifCond .ne 7, 3) := by decide +kernel
theorem dX10_told__8 : decode cX10_told_ 8 = .ok (.iconst 1, 1) := by decide +kernel
theorem dX10_told__9 : decode cX10_told_ 9 = .ok (.goto 4, 3) := by decide +kernel
theorem dX10_told__12 : decode cX10_told_ 12 = .ok (.iconst 0, 1) := by decide +kernel
theorem dX10_told__13 : decode cX10_told_ 13 = .ok (.invokevirtual 105, 3) := by decide +kernel
theorem dX10_told__16 : decode cX10_told_ 16 = .ok (.ifCond .eq 5, 3) := by decide +kernel
theorem dX10_told__19 : decode cX10_told_ 19 = .ok (.iconst 0, 1) := by decide +kernel
theorem dX10_told__20 : decode cX10_told_ 20 = .ok (.ireturn, 1) := by decide +kernel
theorem dX10_told__21 : decode cX10_told_ 21 = .ok (.aload_n 0, 1) := by decide +kernel
theorem dX10_told__22 : decode cX10_told_ 22 = .ok (.getfield 21, 3) := by decide +kernel
theorem dX10_told__25 : decode cX10_told_ 25 = .ok (.iload_n 1, 1) := by decide +kernel
theorem dX10_told__26 : decode cX10_told_ 26 = .ok (.aaload, 1) := by decide +kernel
theorem dX10_told__27 : decode cX10_told_ 27 = .ok (.astore 5, 2) := by decide +kernel
theorem dX10_told__29 : decode cX10_told_ 29 = .ok (.iload_n 2, 1) := by decide +kernel
theorem dX10_told__30 : decode cX10_told_ 30 = .ok (.iconst 4, 1) := by decide +kernel
theorem dX10_told__31 : decode cX10_told_ 31 = .ok (.if_icmp .ne 11, 3) := by decide +kernel
theorem dX10_told__34 : decode cX10_told_ 34 = .ok (.aload 5, 2) := by decide +kernel
theorem dX10_told__36 : decode cX10_told_ 36 = .ok (.getfield 49, 3) := by decide +kernel
theorem dX10_told__39 : decode cX10_told_ 39 = .ok (.goto 8, 3) := by decide +kernel
theorem dX10_told__42 : decode cX10_told_ 42 = .ok (.aload 5, 2) := by decide +kernel
theorem dX10_told__44 : decode cX10_told_ 44 = .ok (.getfield 46, 3) := by decide +kernel
theorem dX10_told__47 : decode cX10_told_ 47 = .ok (.istore 6, 2) := by decide +kernel
theorem dX10_told__49 : decode cX10_told_ 49 = .ok (.iload_n 2, 1) := by decide +kernel
theorem dX10_told__50 : decode cX10_told_ 50 = .ok (.iconst 1, 1) := by decide +kernel
theorem dX10_told__51 : decode cX10_told_ 51 = .ok (.if_icmp .eq 8, 3) := by decide +kernel
theorem dX10_told__54 : decode cX10_told_ 54 = .ok (.iload_n 2, 1) := by decide +kernel
theorem dX10_told__55 : decode cX10_told_ 55 = .ok (.iconst 3, 1) := by decide +kernel
theorem dX10_told__56 : decode cX10_told_ 56 = .ok (.if_icmp .ne 11, 3) := by decide +kernel
theorem dX10_told__59 : decode cX10_told_ 59 = .ok (.aload 5, 2) := by decide +kernel
theorem dX10_told__61 : decode cX10_told_ 61 = .ok (.getfield 46, 3) := by decide +kernel
theorem dX10_told__64 : decode cX10_told_ 64 = .ok (.goto 8, 3) := by decide +kernel
theorem dX10_told__67 : decode cX10_told_ 67 = .ok (.aload 5, 2) := by decide +kernel
theorem dX10_told__69 : decode cX10_told_ 69 = .ok (.getfield 49, 3) := by decide +kernel
theorem dX10_told__72 : decode cX10_told_ 72 = .ok (.istore 7, 2) := by decide +kernel
theorem dX10_told__74 : decode cX10_told_ 74 = .ok (.aload_n 0, 1) := by decide +kernel
theorem dX10_told__75 : decode cX10_told_ 75 = .ok (.iconst 0, 1) := by decide +kernel
theorem dX10_told__76 : decode cX10_told_ 76 = .ok (.iload_n 2, 1) := by decide +kernel
theorem dX10_told__77 : decode cX10_told_ 77 = .ok (.ifCond .lt 30, 3) := by decide +kernel
theorem dX10_told__80 : decode cX10_told_ 80 = .ok (.iload_n 2, 1) := by decide +kernel
theorem dX10_told__81 : decode cX10_told_ 81 = .ok (.iconst 4, 1) := by decide +kernel
theorem dX10_told__82 : decode cX10_told_ 82 = .ok (.if_icmp .gt 25, 3) := by decide +kernel
theorem dX10_told__85 : decode cX10_told_ 85 = .ok (.iload_n 3, 1) := by decide +kernel
theorem dX10_told__86 : decode cX10_told_ 86 = .ok (.ifCond .lt 21, 3) := by decide +kernel
theorem dX10_told__89 : decode cX10_told_ 89 = .ok (.iload_n 3, 1) := by decide +kernel
theorem dX10_told__90 : decode cX10_told_ 90 = .ok (.iload 6, 2) := by decide +kernel
theorem dX10_told__92 : decode cX10_told_ 92 = .ok (.if_icmp .ge 15, 3) := by decide +kernel
theorem dX10_told__95 : decode cX10_told_ 95 = .ok (.iload 4, 2) := by decide +kernel
theorem dX10_told__97 : decode cX10_told_ 97 = .ok (.ifCond .lt 10, 3) := by decide +kernel
theorem dX10_told__100 : decode cX10_told_ 100 = .ok (.iload 4, 2) := by decide +kernel
theorem dX10_told__102 : decode cX10_told_ 102 = .ok (.iload 7, 2) := by decide +kernel
theorem dX10_told__104 : decode cX10_told_ 104 = .ok (.if_icmp .lt 7, 3) := by decide +kernel
theorem dX10_told__107 : decode cX10_told_ 107 = .ok (.iconst 1, 1) := by decide +kernel
theorem dX10_told__108 : decode cX10_told_ 108 = .ok (.goto 4, 3) := by decide +kernel
theorem dX10_told__111 : decode cX10_told_ 111 = .ok (.iconst 0, 1) := by decide +kernel
theorem dX10_told__112 : decode cX10_told_ 112 = .ok (.invokevirtual 77, 3) := by decide +kernel
theorem dX10_told__115 : decode cX10_told_ 115 = .ok (.ifCond .eq 5, 3) := by decide +kernel
theorem dX10_told__118 : decode cX10_told_ 118 = .ok (.iconst 0, 1) := by decide +kernel
theorem dX10_told__119 : decode cX10_told_ 119 = .ok (.ireturn, 1) := by decide +kernel
theorem dX10_told__120 : decode cX10_told_ 120 = .ok (.aload 5, 2) := by decide +kernel
theorem dX10_told__122 : decode cX10_told_ 122 = .ok (.iload_n 2, 1) := by decide +kernel
theorem dX10_told__123 : decode cX10_told_ 123 = .ok (.invokestatic 188, 3) := by decide +kernel
theorem dX10_told__126 : decode cX10_told_ 126 = .ok (.astore 8, 2) := by decide +kernel
theorem dX10_told__128 : decode cX10_told_ 128 = .ok (.aload_n 0, 1) := by decide +kernel
theorem dX10_told__129 : decode cX10_told_ 129 = .ok (.iconst 0, 1) := by decide +kernel
theorem dX10_told__130 : decode cX10_told_ 130 = .ok (.iconst 0, 1) := by decide +kernel
theorem dX10_told__131 : decode cX10_told_ 131 = .ok (.aload 8, 2) := by decide +kernel
theorem dX10_told__133 : decode cX10_told_ 133 = .ok (.ifnonnull 7, 3) := by decide +kernel
theorem dX10_told__136 : decode cX10_told_ 136 = .ok (.iconst 1, 1) := by decide +kernel
theorem dX10_told__137 : decode cX10_told_ 137 = .ok (.goto 4, 3) := by decide +kernel
theorem dX10_told__140 : decode cX10_told_ 140 = .ok (.iconst 0, 1) := by decide +kernel
theorem dX10_told__141 : decode cX10_told_ 141 = .ok (.invokevirtual 32, 3) := by decide +kernel
theorem dX10_told__144 : decode cX10_told_ 144 = .ok (.ifCond .eq 7, 3) := by decide +kernel
theorem dX10_told__147 : decode cX10_told_ 147 = .ok (.iconst 0, 1) := by decide +kernel
theorem dX10_told__148 : decode cX10_told_ 148 = .ok (.goto 12, 3) := by decide +kernel
theorem dX10_told__151 : decode cX10_told_ 151 = .ok (.aload 8, 2) := by decide +kernel
theorem dX10_told__153 : decode cX10_told_ 153 = .ok (.iload_n 3, 1) := by decide +kernel
theorem dX10_told__154 : decode cX10_told_ 154 = .ok (.iload 4, 2) := by decide +kernel
theorem dX10_told__156 : decode cX10_told_ 156 = .ok (.invokevirtual 88, 3) := by decide +kernel
theorem dX10_told__159 : decode cX10_told_ 159 = .ok (.l2i, 1) := by decide +kernel
theorem dX10_told__160 : decode cX10_told_ 160 = .ok (.ireturn, 1) := by decide +kernel
theorem dX10_change_0 : decode cX10_change 0 = .ok (.aload_n 0, 1) := by decide +kernel
theorem dX10_change_1 : decode cX10_change 1 = .ok (.iload_n 1, 1) := by decide +kernel
theorem dX10_change_2 : decode cX10_change 2 = .ok (.invokestatic 42, 3) := by decide +kernel
theorem dX10_change_5 : decode cX10_change 5 = .ok (.ifCond .ne 7, 3) := by decide +kernel
theorem dX10_change_8 : decode cX10_change 8 = .ok (.iconst 1, 1) := by decide +kernel
theorem dX10_change_9 : decode cX10_change 9 = .ok (.goto 4, 3) := by decide +kernel
theorem dX10_change_12 : decode cX10_change 12 = .ok (.iconst 0, 1) := by decide +kernel
theorem dX10_change_13 : decode cX10_change 13 = .ok (.iload_n 2, 1) := by decide +kernel
theorem dX10_change_14 : decode cX10_change 14 = .ok (.ifCond .lt 8, 3) := by decide +kernel
theorem dX10_change_17 : decode cX10_change 17 = .ok (.iload_n 2, 1) := by decide +kernel
theorem dX10_change_18 : decode cX10_change 18 = .ok (.iconst 4, 1) := by decide +kernel
theorem dX10_change_19 : decode cX10_change 19 = .ok (.if_icmp .le 7, 3) := by decide +kernel
theorem dX10_change_22 : decode cX10_change 22 = .ok (.iconst 1, 1) := by decide +kernel
theorem dX10_change_23 : decode cX10_change 23 = .ok (.goto 4, 3) := by decide +kernel
theorem dX10_change_26 : decode cX10_change 26 = .ok (.iconst 0, 1) := by decide +kernel
theorem dX10_change_27 : decode cX10_change 27 = .ok (.invokevirtual 77, 3) := by decide +kernel
theorem dX10_change_30 : decode cX10_change 30 = .ok (.ifCond .eq 5, 3) := by decide +kernel
theorem dX10_change_33 : decode cX10_change 33 = .ok (.iconst 0, 1) := by decide +kernel
theorem dX10_change_34 : decode cX10_change 34 = .ok (.ireturn, 1) := by decide +kernel
theorem dX10_change_35 : decode cX10_change 35 = .ok (.iload_n 2, 1) := by decide +kernel
theorem dX10_change_36 : decode cX10_change 36 = .ok (.ifCond .eq 8, 3) := by decide +kernel
theorem dX10_change_39 : decode cX10_change 39 = .ok (.iload_n 2, 1) := by decide +kernel
theorem dX10_change_40 : decode cX10_change 40 = .ok (.iconst 2, 1) := by decide +kernel
theorem dX10_change_41 : decode cX10_change 41 = .ok (.if_icmp .ne 56, 3) := by decide +kernel
theorem dX10_change_44 : decode cX10_change 44 = .ok (.new 161, 3) := by decide +kernel
theorem dX10_change_47 : decode cX10_change 47 = .ok (.dup, 1) := by decide +kernel
theorem dX10_change_48 : decode cX10_change 48 = .ok (.aload_n 0, 1) := by decide +kernel
theorem dX10_change_49 : decode cX10_change 49 = .ok (.getfield 21, 3) := by decide +kernel
theorem dX10_change_52 : decode cX10_change 52 = .ok (.iload_n 1, 1) := by decide +kernel
theorem dX10_change_53 : decode cX10_change 53 = .ok (.aaload, 1) := by decide +kernel
theorem dX10_change_54 : decode cX10_change 54 = .ok (.invokespecial 163, 3) := by decide +kernel
theorem dX10_change_57 : decode cX10_change 57 = .ok (.astore_n 3, 1) := by decide +kernel
theorem dX10_change_58 : decode cX10_change 58 = .ok (.iload_n 2, 1) := by decide +kernel
theorem dX10_change_59 : decode cX10_change 59 = .ok (.ifCond .ne 16, 3) := by decide +kernel
theorem dX10_change_62 : decode cX10_change 62 = .ok (.aload_n 3, 1) := by decide +kernel
theorem dX10_change_63 : decode cX10_change 63 = .ok (.getfield 166, 3) := by decide +kernel
theorem dX10_change_66 : decode cX10_change 66 = .ok (.ifCond .eq 7, 3) := by decide +kernel
theorem dX10_change_69 : decode cX10_change 69 = .ok (.iconst 1, 1) := by decide +kernel
theorem dX10_change_70 : decode cX10_change 70 = .ok (.goto 4, 3) := by decide +kernel
theorem dX10_change_73 : decode cX10_change 73 = .ok (.iconst 0, 1) := by decide +kernel
theorem dX10_change_74 : decode cX10_change 74 = .ok (.ireturn, 1) := by decide +kernel
theorem dX10_change_75 : decode cX10_change 75 = .ok (.aload_n 0, 1) := by decide +kernel
theorem dX10_change_76 : decode cX10_change 76 = .ok (.iconst 0, 1) := by decide +kernel
theorem dX10_change_77 : decode cX10_change 77 = .ok (.iconst 0, 1) := by decide +kernel
theorem dX10_change_78 : decode cX10_change 78 = .ok (.aload_n 3, 1) := by decide +kernel
theorem dX10_change_79 : decode cX10_change 79 = .ok (.getfield 166, 3) := by decide +kernel
theorem dX10_change_82 : decode cX10_change 82 = .ok (.invokevirtual 32, 3) := by decide +kernel
theorem dX10_change_85 : decode cX10_change 85 = .ok (.ifCond .eq 7, 3) := by decide +kernel
theorem dX10_change_88 : decode cX10_change 88 = .ok (.iconst 0, 1) := by decide +kernel
theorem dX10_change_89 : decode cX10_change 89 = .ok (.goto 7, 3) := by decide +kernel
theorem dX10_change_92 : decode cX10_change 92 = .ok (.aload_n 3, 1) := by decide +kernel
theorem dX10_change_93 : decode cX10_change 93 = .ok (.getfield 241, 3) := by decide +kernel
theorem dX10_change_96 : decode cX10_change 96 = .ok (.ireturn, 1) := by decide +kernel
theorem dX10_change_97 : decode cX10_change 97 = .ok (.new 177, 3) := by decide +kernel
theorem dX10_change_100 : decode cX10_change 100 = .ok (.dup, 1) := by decide +kernel
theorem dX10_change_101 : decode cX10_change 101 = .ok (.aload_n 0, 1) := by decide +kernel
theorem dX10_change_102 : decode cX10_change 102 = .ok (.getfield 21, 3) := by decide +kernel
theorem dX10_change_105 : decode cX10_change 105 = .ok (.iload_n 1, 1) := by decide +kernel
theorem dX10_change_106 : decode cX10_change 106 = .ok (.aaload, 1) := by decide +kernel
theorem dX10_change_107 : decode cX10_change 107 = .ok (.invokespecial 179, 3) := by decide +kernel
theorem dX10_change_110 : decode cX10_change 110 = .ok (.astore_n 3, 1) := by decide +kernel
theorem dX10_change_111 : decode cX10_change 111 = .ok (.iload_n 2, 1) := by decide +kernel
theorem dX10_change_112 : decode cX10_change 112 = .ok (.iconst 1, 1) := by decide +kernel
theorem dX10_change_113 : decode cX10_change 113 = .ok (.if_icmp .ne 16, 3) := by decide +kernel
theorem dX10_change_116 : decode cX10_change 116 = .ok (.aload_n 3, 1) := by decide +kernel
theorem dX10_change_117 : decode cX10_change 117 = .ok (.getfield 180, 3) := by decide +kernel
theorem dX10_change_120 : decode cX10_change 120 = .ok (.ifCond .eq 7, 3) := by decide +kernel
theorem dX10_change_123 : decode cX10_change 123 = .ok (.iconst 1, 1) := by decide +kernel
theorem dX10_change_124 : decode cX10_change 124 = .ok (.goto 4, 3) := by decide +kernel
theorem dX10_change_127 : decode cX10_change 127 = .ok (.iconst 0, 1) := by decide +kernel
theorem dX10_change_128 : decode cX10_change 128 = .ok (.ireturn, 1) := by decide +kernel
theorem dX10_change_129 : decode cX10_change 129 = .ok (.aload_n 0, 1) := by decide +kernel
theorem dX10_change_130 : decode cX10_change 130 = .ok (.iconst 0, 1) := by decide +kernel
theorem dX10_change_131 : decode cX10_change 131 = .ok (.iconst 0, 1) := by decide +kernel
theorem dX10_change_132 : decode cX10_change 132 = .ok (.aload_n 3, 1) := by decide +kernel
theorem dX10_change_133 : decode cX10_change 133 = .ok (.getfield 180, 3) := by decide +kernel
theorem dX10_change_136 : decode cX10_change 136 = .ok (.invokevirtual 32, 3) := by decide +kernel
theorem dX10_change_139 : decode cX10_change 139 = .ok (.ifCond .eq 7, 3) := by decide +kernel
theorem dX10_change_142 : decode cX10_change 142 = .ok (.iconst 0, 1) := by decide +kernel
theorem dX10_change_143 : decode cX10_change 143 = .ok (.goto 19, 3) := by decide +kernel
theorem dX10_change_146 : decode cX10_change 146 = .ok (.iload_n 2, 1) := by decide +kernel
theorem dX10_change_147 : decode cX10_change 147 = .ok (.iconst 3, 1) := by decide +kernel
theorem dX10_change_148 : decode cX10_change 148 = .ok (.if_icmp .ne 10, 3) := by decide +kernel
theorem dX10_change_151 : decode cX10_change 151 = .ok (.aload_n 3, 1) := by decide +kernel
theorem dX10_change_152 : decode cX10_change 152 = .ok (.getfield 255, 3) := by decide +kernel
theorem dX10_change_155 : decode cX10_change 155 = .ok (.goto 7, 3) := by decide +kernel
theorem dX10_change_158 : decode cX10_change 158 = .ok (.aload_n 3, 1) := by decide +kernel
theorem dX10_change_159 : decode cX10_change 159 = .ok (.getfield 258, 3) := by decide +kernel
theorem dX10_change_162 : decode cX10_change 162 = .ok (.ireturn, 1) := by decide +kernel
theorem dX10_isSolvable_0 : decode cX10_isSolvable 0 = .ok (.aload_n 0, 1) := by decide +kernel
theorem dX10_isSolvable_1 : decode cX10_isSolvable 1 = .ok (.iload_n 1, 1) := by decide +kernel
theorem dX10_isSolvable_2 : decode cX10_isSolvable 2 = .ok (.invokestatic 42, 3) := by decide +kernel
theorem dX10_isSolvable_5 : decode cX10_isSolvable 5 = .ok (.ifCond .eq 12, 3) := by decide +kernel
theorem dX10_isSolvable_8 : decode cX10_isSolvable 8 = .ok (.aload_n 0, 1) := by decide +kernel
theorem dX10_isSolvable_9 : decode cX10_isSolvable 9 = .ok (.iload_n 2, 1) := by decide +kernel
theorem dX10_isSolvable_10 : decode cX10_isSolvable 10 = .ok (.iload_n 3, 1) := by decide +kernel
theorem dX10_isSolvable_11 : decode cX10_isSolvable 11 = .ok (.invokevirtual 52, 3) := by decide +kernel
theorem dX10_isSolvable_14 : decode cX10_isSolvable 14 = .ok (.ifCond .ne 7, 3) := by decide +kernel
theorem dX10_isSolvable_17 : decode cX10_isSolvable 17 = .ok (.iconst 1, 1) := by decide +kernel
theorem dX10_isSolvable_18 : decode cX10_isSolvable 18 = .ok (.goto 4, 3) := by decide +kernel
theorem dX10_isSolvable_21 : decode cX10_isSolvable 21 = .ok (.iconst 0, 1) := by decide +kernel
theorem dX10_isSolvable_22 : decode cX10_isSolvable 22 = .ok (.invokevirtual 105, 3) := by decide +kernel
theorem dX10_isSolvable_25 : decode cX10_isSolvable 25 = .ok (.ifCond .eq 5, 3) := by decide +kernel
theorem dX10_isSolvable_28 : decode cX10_isSolvable 28 = .ok (.iconst 0, 1) := by decide +kernel
theorem dX10_isSolvable_29 : decode cX10_isSolvable 29 = .ok (.ireturn, 1) := by decide +kernel
theorem dX10_isSolvable_30 : decode cX10_isSolvable 30 = .ok (.aload_n 0, 1) := by decide +kernel
theorem dX10_isSolvable_31 : decode cX10_isSolvable 31 = .ok (.getfield 21, 3) := by decide +kernel
theorem dX10_isSolvable_34 : decode cX10_isSolvable 34 = .ok (.iload_n 1, 1) := by decide +kernel
theorem dX10_isSolvable_35 : decode cX10_isSolvable 35 = .ok (.aaload, 1) := by decide +kernel
theorem dX10_isSolvable_36 : decode cX10_isSolvable 36 = .ok (.astore 5, 2) := by decide +kernel
theorem dX10_isSolvable_38 : decode cX10_isSolvable 38 = .ok (.aload_n 0, 1) := by decide +kernel
theorem dX10_isSolvable_39 : decode cX10_isSolvable 39 = .ok (.iconst 0, 1) := by decide +kernel
theorem dX10_isSolvable_40 : decode cX10_isSolvable 40 = .ok (.aload 5, 2) := by decide +kernel
theorem dX10_isSolvable_42 : decode cX10_isSolvable 42 = .ok (.getfield 46, 3) := by decide +kernel
theorem dX10_isSolvable_45 : decode cX10_isSolvable 45 = .ok (.aload_n 0, 1) := by decide +kernel
theorem dX10_isSolvable_46 : decode cX10_isSolvable 46 = .ok (.getfield 21, 3) := by decide +kernel
theorem dX10_isSolvable_49 : decode cX10_isSolvable 49 = .ok (.iload_n 2, 1) := by decide +kernel
theorem dX10_isSolvable_50 : decode cX10_isSolvable 50 = .ok (.aaload, 1) := by decide +kernel
theorem dX10_isSolvable_51 : decode cX10_isSolvable 51 = .ok (.getfield 46, 3) := by decide +kernel
theorem dX10_isSolvable_54 : decode cX10_isSolvable 54 = .ok (.if_icmp .ne 14, 3) := by decide +kernel
theorem dX10_isSolvable_57 : decode cX10_isSolvable 57 = .ok (.iload 4, 2) := by decide +kernel
theorem dX10_isSolvable_59 : decode cX10_isSolvable 59 = .ok (.ifCond .lt 9, 3) := by decide +kernel
theorem dX10_isSolvable_62 : decode cX10_isSolvable 62 = .ok (.iload 4, 2) := by decide +kernel
theorem dX10_isSolvable_64 : decode cX10_isSolvable 64 = .ok (.iconst 1, 1) := by decide +kernel
theorem dX10_isSolvable_65 : decode cX10_isSolvable 65 = .ok (.if_icmp .le 7, 3) := by decide +kernel
theorem dX10_isSolvable_68 : decode cX10_isSolvable 68 = .ok (.iconst 1, 1) := by decide +kernel
theorem dX10_isSolvable_69 : decode cX10_isSolvable 69 = .ok (.goto 4, 3) := by decide +kernel
theorem dX10_isSolvable_72 : decode cX10_isSolvable 72 = .ok (.iconst 0, 1) := by decide +kernel
theorem dX10_isSolvable_73 : decode cX10_isSolvable 73 = .ok (.invokevirtual 77, 3) := by decide +kernel
theorem dX10_isSolvable_76 : decode cX10_isSolvable 76 = .ok (.ifCond .eq 5, 3) := by decide +kernel
theorem dX10_isSolvable_79 : decode cX10_isSolvable 79 = .ok (.iconst 0, 1) := by decide +kernel
theorem dX10_isSolvable_80 : decode cX10_isSolvable 80 = .ok (.ireturn, 1) := by decide +kernel
theorem dX10_isSolvable_81 : decode cX10_isSolvable 81 = .ok (.iload 4, 2) := by decide +kernel
theorem dX10_isSolvable_83 : decode cX10_isSolvable 83 = .ok (.iconst 1, 1) := by decide +kernel
theorem dX10_isSolvable_84 : decode cX10_isSolvable 84 = .ok (.if_icmp .ne 15, 3) := by decide +kernel
theorem dX10_isSolvable_87 : decode cX10_isSolvable 87 = .ok (.aload 5, 2) := by decide +kernel
theorem dX10_isSolvable_89 : decode cX10_isSolvable 89 = .ok (.aload_n 0, 1) := by decide +kernel
theorem dX10_isSolvable_90 : decode cX10_isSolvable 90 = .ok (.iload_n 2, 1) := by decide +kernel
theorem dX10_isSolvable_91 : decode cX10_isSolvable 91 = .ok (.iload_n 3, 1) := by decide +kernel
theorem dX10_isSolvable_92 : decode cX10_isSolvable 92 = .ok (.invokevirtual 195, 3) := by decide +kernel
theorem dX10_isSolvable_95 : decode cX10_isSolvable 95 = .ok (.invokestatic 261, 3) := by decide +kernel
theorem dX10_isSolvable_98 : decode cX10_isSolvable 98 = .ok (.ireturn, 1) := by decide +kernel
theorem dX10_isSolvable_99 : decode cX10_isSolvable 99 = .ok (.new 177, 3) := by decide +kernel
theorem dX10_isSolvable_102 : decode cX10_isSolvable 102 = .ok (.dup, 1) := by decide +kernel
theorem dX10_isSolvable_103 : decode cX10_isSolvable 103 = .ok (.aload 5, 2) := by decide +kernel
theorem dX10_isSolvable_105 : decode cX10_isSolvable 105 = .ok (.invokespecial 179, 3) := by decide +kernel
theorem dX10_isSolvable_108 : decode cX10_isSolvable 108 = .ok (.astore 6, 2) := by decide +kernel
theorem dX10_isSolvable_110 : decode cX10_isSolvable 110 = .ok (.aload_n 0, 1) := by decide +kernel
theorem dX10_isSolvable_111 : decode cX10_isSolvable 111 = .ok (.iconst 0, 1) := by decide +kernel
theorem dX10_isSolvable_112 : decode cX10_isSolvable 112 = .ok (.iconst 0, 1) := by decide +kernel
theorem dX10_isSolvable_113 : decode cX10_isSolvable 113 = .ok (.aload 6, 2) := by decide +kernel
theorem dX10_isSolvable_115 : decode cX10_isSolvable 115 = .ok (.getfield 180, 3) := by decide +kernel
theorem dX10_isSolvable_118 : decode cX10_isSolvable 118 = .ok (.invokevirtual 32, 3) := by decide +kernel
theorem dX10_isSolvable_121 : decode cX10_isSolvable 121 = .ok (.ifCond .ne 29, 3) := by decide +kernel
theorem dX10_isSolvable_124 : decode cX10_isSolvable 124 = .ok (.aload 6, 2) := by decide +kernel
theorem dX10_isSolvable_126 : decode cX10_isSolvable 126 = .ok (.aload 6, 2) := by decide +kernel
theorem dX10_isSolvable_128 : decode cX10_isSolvable 128 = .ok (.getfield 182, 3) := by decide +kernel
theorem dX10_isSolvable_131 : decode cX10_isSolvable 131 = .ok (.aload_n 0, 1) := by decide +kernel
theorem dX10_isSolvable_132 : decode cX10_isSolvable 132 = .ok (.iload_n 2, 1) := by decide +kernel
theorem dX10_isSolvable_133 : decode cX10_isSolvable 133 = .ok (.iload_n 3, 1) := by decide +kernel
theorem dX10_isSolvable_134 : decode cX10_isSolvable 134 = .ok (.invokevirtual 195, 3) := by decide +kernel
theorem dX10_isSolvable_137 : decode cX10_isSolvable 137 = .ok (.invokevirtual 158, 3) := by decide +kernel
theorem dX10_isSolvable_140 : decode cX10_isSolvable 140 = .ok (.invokestatic 199, 3) := by decide +kernel
theorem dX10_isSolvable_143 : decode cX10_isSolvable 143 = .ok (.ifCond .eq 7, 3) := by decide +kernel
theorem dX10_isSolvable_146 : decode cX10_isSolvable 146 = .ok (.iconst 1, 1) := by decide +kernel
theorem dX10_isSolvable_147 : decode cX10_isSolvable 147 = .ok (.goto 4, 3) := by decide +kernel
theorem dX10_isSolvable_150 : decode cX10_isSolvable 150 = .ok (.iconst 0, 1) := by decide +kernel
theorem dX10_isSolvable_151 : decode cX10_isSolvable 151 = .ok (.ireturn, 1) := by decide +kernel
theorem dX10_isByDivisors_0 : decode cX10_isByDivisors 0 = .ok (.new 19, 3) := by decide +kernel
theorem dX10_isByDivisors_3 : decode cX10_isByDivisors 3 = .ok (.dup, 1) := by decide +kernel
theorem dX10_isByDivisors_4 : decode cX10_isByDivisors 4 = .ok (.aload_n 0, 1) := by decide +kernel
theorem dX10_isByDivisors_5 : decode cX10_isByDivisors 5 = .ok (.getfield 46, 3) := by decide +kernel
theorem dX10_isByDivisors_8 : decode cX10_isByDivisors 8 = .ok (.aload_n 0, 1) := by decide +kernel
theorem dX10_isByDivisors_9 : decode cX10_isByDivisors 9 = .ok (.getfield 49, 3) := by decide +kernel
theorem dX10_isByDivisors_12 : decode cX10_isByDivisors 12 = .ok (.iconst 1, 1) := by decide +kernel
theorem dX10_isByDivisors_13 : decode cX10_isByDivisors 13 = .ok (.iadd, 1) := by decide +kernel
theorem dX10_isByDivisors_14 : decode cX10_isByDivisors 14 = .ok (.invokespecial 25, 3) := by decide +kernel
theorem dX10_isByDivisors_17 : decode cX10_isByDivisors 17 = .ok (.astore_n 2, 1) := by decide +kernel
theorem dX10_isByDivisors_18 : decode cX10_isByDivisors 18 = .ok (.iconst 0, 1) := by decide +kernel
theorem dX10_isByDivisors_19 : decode cX10_isByDivisors 19 = .ok (.istore_n 3, 1) := by decide +kernel
theorem dX10_isByDivisors_20 : decode cX10_isByDivisors 20 = .ok (.iload_n 3, 1) := by decide +kernel
theorem dX10_isByDivisors_21 : decode cX10_isByDivisors 21 = .ok (.aload_n 0, 1) := by decide +kernel
theorem dX10_isByDivisors_22 : decode cX10_isByDivisors 22 = .ok (.getfield 46, 3) := by decide +kernel
theorem dX10_isByDivisors_25 : decode cX10_isByDivisors 25 = .ok (.if_icmp .ge 59, 3) := by decide +kernel
theorem dX10_isByDivisors_28 : decode cX10_isByDivisors 28 = .ok (.iconst 0, 1) := by decide +kernel
theorem dX10_isByDivisors_29 : decode cX10_isByDivisors 29 = .ok (.istore 4, 2) := by decide +kernel
theorem dX10_isByDivisors_31 : decode cX10_isByDivisors 31 = .ok (.iload 4, 2) := by decide +kernel
theorem dX10_isByDivisors_33 : decode cX10_isByDivisors 33 = .ok (.aload_n 2, 1) := by decide +kernel
theorem dX10_isByDivisors_34 : decode cX10_isByDivisors 34 = .ok (.getfield 49, 3) := by decide +kernel
theorem dX10_isByDivisors_37 : decode cX10_isByDivisors 37 = .ok (.if_icmp .ge 41, 3) := by decide +kernel
theorem dX10_isByDivisors_40 : decode cX10_isByDivisors 40 = .ok (.aload_n 2, 1) := by decide +kernel
theorem dX10_isByDivisors_41 : decode cX10_isByDivisors 41 = .ok (.iload_n 3, 1) := by decide +kernel
theorem dX10_isByDivisors_42 : decode cX10_isByDivisors 42 = .ok (.iload 4, 2) := by decide +kernel
theorem dX10_isByDivisors_44 : decode cX10_isByDivisors 44 = .ok (.iload 4, 2) := by decide +kernel
theorem dX10_isByDivisors_46 : decode cX10_isByDivisors 46 = .ok (.aload_n 0, 1) := by decide +kernel
theorem dX10_isByDivisors_47 : decode cX10_isByDivisors 47 = .ok (.getfield 49, 3) := by decide +kernel
theorem dX10_isByDivisors_50 : decode cX10_isByDivisors 50 = .ok (.if_icmp .ge 13, 3) := by decide +kernel
theorem dX10_isByDivisors_53 : decode cX10_isByDivisors 53 = .ok (.aload_n 0, 1) := by decide +kernel
theorem dX10_isByDivisors_54 : decode cX10_isByDivisors 54 = .ok (.iload_n 3, 1) := by decide +kernel
theorem dX10_isByDivisors_55 : decode cX10_isByDivisors 55 = .ok (.iload 4, 2) := by decide +kernel
theorem dX10_isByDivisors_57 : decode cX10_isByDivisors 57 = .ok (.invokevirtual 88, 3) := by decide +kernel
theorem dX10_isByDivisors_60 : decode cX10_isByDivisors 60 = .ok (.goto 9, 3) := by decide +kernel
theorem dX10_isByDivisors_63 : decode cX10_isByDivisors 63 = .ok (.aload_n 1, 1) := by decide +kernel
theorem dX10_isByDivisors_64 : decode cX10_isByDivisors 64 = .ok (.iload_n 3, 1) := by decide +kernel
theorem dX10_isByDivisors_65 : decode cX10_isByDivisors 65 = .ok (.iconst 0, 1) := by decide +kernel
theorem dX10_isByDivisors_66 : decode cX10_isByDivisors 66 = .ok (.invokevirtual 88, 3) := by decide +kernel
theorem dX10_isByDivisors_69 : decode cX10_isByDivisors 69 = .ok (.invokevirtual 92, 3) := by decide +kernel
theorem dX10_isByDivisors_72 : decode cX10_isByDivisors 72 = .ok (.iinc 4 1, 3) := by decide +kernel
theorem dX10_isByDivisors_75 : decode cX10_isByDivisors 75 = .ok (.goto (-44), 3) := by decide +kernel
theorem dX10_isByDivisors_78 : decode cX10_isByDivisors 78 = .ok (.iinc 3 1, 3) := by decide +kernel
theorem dX10_isByDivisors_81 : decode cX10_isByDivisors 81 = .ok (.goto (-61), 3) := by decide +kernel
theorem dX10_isByDivisors_84 : decode cX10_isByDivisors 84 = .ok (.aload_n 0, 1) := by decide +kernel
theorem dX10_isByDivisors_85 : decode cX10_isByDivisors 85 = .ok (.invokevirtual 252, 3) := by decide +kernel
theorem dX10_isByDivisors_88 : decode cX10_isByDivisors 88 = .ok (.istore_n 3, 1) := by decide +kernel
theorem dX10_isByDivisors_89 : decode cX10_isByDivisors 89 = .ok (.aload_n 2, 1) := by decide +kernel
theorem dX10_isByDivisors_90 : decode cX10_isByDivisors 90 = .ok (.invokevirtual 252, 3) := by decide +kernel
theorem dX10_isByDivisors_93 : decode cX10_isByDivisors 93 = .ok (.iload_n 3, 1) := by decide +kernel
theorem dX10_isByDivisors_94 : decode cX10_isByDivisors 94 = .ok (.if_icmp .ne 21, 3) := by decide +kernel
theorem dX10_isByDivisors_97 : decode cX10_isByDivisors 97 = .ok (.aload_n 2, 1) := by decide +kernel
theorem dX10_isByDivisors_98 : decode cX10_isByDivisors 98 = .ok (.iload_n 3, 1) := by decide +kernel
theorem dX10_isByDivisors_99 : decode cX10_isByDivisors 99 = .ok (.invokevirtual 248, 3) := by decide +kernel
theorem dX10_isByDivisors_102 : decode cX10_isByDivisors 102 = .ok (.aload_n 0, 1) := by decide +kernel
theorem dX10_isByDivisors_103 : decode cX10_isByDivisors 103 = .ok (.iload_n 3, 1) := by decide +kernel
theorem dX10_isByDivisors_104 : decode cX10_isByDivisors 104 = .ok (.invokevirtual 248, 3) := by decide +kernel
theorem dX10_isByDivisors_107 : decode cX10_isByDivisors 107 = .ok (.lcmp, 1) := by decide +kernel
theorem dX10_isByDivisors_108 : decode cX10_isByDivisors 108 = .ok (.ifCond .ne 7, 3) := by decide +kernel
theorem dX10_isByDivisors_111 : decode cX10_isByDivisors 111 = .ok (.iconst 1, 1) := by decide +kernel
theorem dX10_isByDivisors_112 : decode cX10_isByDivisors 112 = .ok (.goto 4, 3) := by decide +kernel
theorem dX10_isByDivisors_115 : decode cX10_isByDivisors 115 = .ok (.iconst 0, 1) := by decide +kernel
theorem dX10_isByDivisors_116 : decode cX10_isByDivisors 116 = .ok (.ireturn, 1) := by decide +kernel
theorem dX10_restColumn_0 : decode cX10_restColumn 0 = .ok (.aload_n 0, 1) := by decide +kernel
theorem dX10_restColumn_1 : decode cX10_restColumn 1 = .ok (.iload_n 1, 1) := by decide +kernel
theorem dX10_restColumn_2 : decode cX10_restColumn 2 = .ok (.invokestatic 42, 3) := by decide +kernel
theorem dX10_restColumn_5 : decode cX10_restColumn 5 = .ok (.ifCond .ne 7, 3) := by decide +kernel
theorem dX10_restColumn_8 : decode cX10_restColumn 8 = .ok (.iconst 1, 1) := by decide +kernel
theorem dX10_restColumn_9 : decode cX10_restColumn 9 = .ok (.goto 4, 3) := by decide +kernel
theorem dX10_restColumn_12 : decode cX10_restColumn 12 = .ok (.iconst 0, 1) := by decide +kernel
theorem dX10_restColumn_13 : decode cX10_restColumn 13 = .ok (.invokevirtual 105, 3) := by decide +kernel
theorem dX10_restColumn_16 : decode cX10_restColumn 16 = .ok (.ifCond .eq 5, 3) := by decide +kernel
theorem dX10_restColumn_19 : decode cX10_restColumn 19 = .ok (.iconst 0, 1) := by decide +kernel
theorem dX10_restColumn_20 : decode cX10_restColumn 20 = .ok (.ireturn, 1) := by decide +kernel
theorem dX10_restColumn_21 : decode cX10_restColumn 21 = .ok (.new 177, 3) := by decide +kernel
theorem dX10_restColumn_24 : decode cX10_restColumn 24 = .ok (.dup, 1) := by decide +kernel
theorem dX10_restColumn_25 : decode cX10_restColumn 25 = .ok (.aload_n 0, 1) := by decide +kernel
theorem dX10_restColumn_26 : decode cX10_restColumn 26 = .ok (.getfield 21, 3) := by decide +kernel
theorem dX10_restColumn_29 : decode cX10_restColumn 29 = .ok (.iload_n 1, 1) := by decide +kernel
theorem dX10_restColumn_30 : decode cX10_restColumn 30 = .ok (.aaload, 1) := by decide +kernel
theorem dX10_restColumn_31 : decode cX10_restColumn 31 = .ok (.invokespecial 179, 3) := by decide +kernel
theorem dX10_restColumn_34 : decode cX10_restColumn 34 = .ok (.astore 4, 2) := by decide +kernel
theorem dX10_restColumn_36 : decode cX10_restColumn 36 = .ok (.aload_n 0, 1) := by decide +kernel
theorem dX10_restColumn_37 : decode cX10_restColumn 37 = .ok (.getfield 21, 3) := by decide +kernel
theorem dX10_restColumn_40 : decode cX10_restColumn 40 = .ok (.iload_n 1, 1) := by decide +kernel
theorem dX10_restColumn_41 : decode cX10_restColumn 41 = .ok (.aaload, 1) := by decide +kernel
theorem dX10_restColumn_42 : decode cX10_restColumn 42 = .ok (.getfield 49, 3) := by decide +kernel
theorem dX10_restColumn_45 : decode cX10_restColumn 45 = .ok (.istore 5, 2) := by decide +kernel
theorem dX10_restColumn_47 : decode cX10_restColumn 47 = .ok (.iload_n 2, 1) := by decide +kernel
theorem dX10_restColumn_48 : decode cX10_restColumn 48 = .ok (.ifCond .lt 25, 3) := by decide +kernel
theorem dX10_restColumn_51 : decode cX10_restColumn 51 = .ok (.iload_n 2, 1) := by decide +kernel
theorem dX10_restColumn_52 : decode cX10_restColumn 52 = .ok (.iload 5, 2) := by decide +kernel
theorem dX10_restColumn_54 : decode cX10_restColumn 54 = .ok (.aload 4, 2) := by decide +kernel
theorem dX10_restColumn_56 : decode cX10_restColumn 56 = .ok (.getfield 192, 3) := by decide +kernel
theorem dX10_restColumn_59 : decode cX10_restColumn 59 = .ok (.isub, 1) := by decide +kernel
theorem dX10_restColumn_60 : decode cX10_restColumn 60 = .ok (.if_icmp .ge 13, 3) := by decide +kernel
theorem dX10_restColumn_63 : decode cX10_restColumn 63 = .ok (.iload_n 3, 1) := by decide +kernel
theorem dX10_restColumn_64 : decode cX10_restColumn 64 = .ok (.ifCond .lt 9, 3) := by decide +kernel
theorem dX10_restColumn_67 : decode cX10_restColumn 67 = .ok (.iload_n 3, 1) := by decide +kernel
theorem dX10_restColumn_68 : decode cX10_restColumn 68 = .ok (.iload 5, 2) := by decide +kernel
theorem dX10_restColumn_70 : decode cX10_restColumn 70 = .ok (.if_icmp .lt 7, 3) := by decide +kernel
theorem dX10_restColumn_73 : decode cX10_restColumn 73 = .ok (.iconst 1, 1) := by decide +kernel
theorem dX10_restColumn_74 : decode cX10_restColumn 74 = .ok (.goto 4, 3) := by decide +kernel
theorem dX10_restColumn_77 : decode cX10_restColumn 77 = .ok (.iconst 0, 1) := by decide +kernel
theorem dX10_restColumn_78 : decode cX10_restColumn 78 = .ok (.istore 6, 2) := by decide +kernel
theorem dX10_restColumn_80 : decode cX10_restColumn 80 = .ok (.aload_n 0, 1) := by decide +kernel
theorem dX10_restColumn_81 : decode cX10_restColumn 81 = .ok (.iconst 0, 1) := by decide +kernel
theorem dX10_restColumn_82 : decode cX10_restColumn 82 = .ok (.aload 4, 2) := by decide +kernel
theorem dX10_restColumn_84 : decode cX10_restColumn 84 = .ok (.getfield 180, 3) := by decide +kernel
theorem dX10_restColumn_87 : decode cX10_restColumn 87 = .ok (.iload 6, 2) := by decide +kernel
theorem dX10_restColumn_89 : decode cX10_restColumn 89 = .ok (.invokevirtual 32, 3) := by decide +kernel
theorem dX10_restColumn_92 : decode cX10_restColumn 92 = .ok (.ifCond .eq 5, 3) := by decide +kernel
theorem dX10_restColumn_95 : decode cX10_restColumn 95 = .ok (.iconst 0, 1) := by decide +kernel
theorem dX10_restColumn_96 : decode cX10_restColumn 96 = .ok (.ireturn, 1) := by decide +kernel
theorem dX10_restColumn_97 : decode cX10_restColumn 97 = .ok (.aload 4, 2) := by decide +kernel
theorem dX10_restColumn_99 : decode cX10_restColumn 99 = .ok (.getfield 185, 3) := by decide +kernel
theorem dX10_restColumn_102 : decode cX10_restColumn 102 = .ok (.iload_n 3, 1) := by decide +kernel
theorem dX10_restColumn_103 : decode cX10_restColumn 103 = .ok (.aload 4, 2) := by decide +kernel
theorem dX10_restColumn_105 : decode cX10_restColumn 105 = .ok (.getfield 192, 3) := by decide +kernel
theorem dX10_restColumn_108 : decode cX10_restColumn 108 = .ok (.iload_n 2, 1) := by decide +kernel
theorem dX10_restColumn_109 : decode cX10_restColumn 109 = .ok (.iadd, 1) := by decide +kernel
theorem dX10_restColumn_110 : decode cX10_restColumn 110 = .ok (.invokevirtual 88, 3) := by decide +kernel
theorem dX10_restColumn_113 : decode cX10_restColumn 113 = .ok (.l2i, 1) := by decide +kernel
theorem dX10_restColumn_114 : decode cX10_restColumn 114 = .ok (.ireturn, 1) := by decide +kernel
theorem dX10_leaving_0 : decode cX10_leaving 0 = .ok (.aload_n 0, 1) := by decide +kernel
theorem dX10_leaving_1 : decode cX10_leaving 1 = .ok (.getfield 46, 3) := by decide +kernel
theorem dX10_leaving_4 : decode cX10_leaving 4 = .ok (.aload_n 0, 1) := by decide +kernel
theorem dX10_leaving_5 : decode cX10_leaving 5 = .ok (.getfield 49, 3) := by decide +kernel
theorem dX10_leaving_8 : decode cX10_leaving 8 = .ok (.if_icmp .ne 12, 3) := by decide +kernel
theorem dX10_leaving_11 : decode cX10_leaving 11 = .ok (.aload_n 0, 1) := by decide +kernel
theorem dX10_leaving_12 : decode cX10_leaving 12 = .ok (.invokestatic 237, 3) := by decide +kernel
theorem dX10_leaving_15 : decode cX10_leaving 15 = .ok (.lconst 0, 1) := by decide +kernel
theorem dX10_leaving_16 : decode cX10_leaving 16 = .ok (.lcmp, 1) := by decide +kernel
theorem dX10_leaving_17 : decode cX10_leaving 17 = .ok (.ifCond .ne 5, 3) := by decide +kernel
theorem dX10_leaving_20 : decode cX10_leaving 20 = .ok (.aconst_null, 1) := by decide +kernel
theorem dX10_leaving_21 : decode cX10_leaving 21 = .ok (.areturn, 1) := by decide +kernel
theorem dX10_leaving_22 : decode cX10_leaving 22 = .ok (.new 161, 3) := by decide +kernel
theorem dX10_leaving_25 : decode cX10_leaving 25 = .ok (.dup, 1) := by decide +kernel
theorem dX10_leaving_26 : decode cX10_leaving 26 = .ok (.aload_n 0, 1) := by decide +kernel
theorem dX10_leaving_27 : decode cX10_leaving 27 = .ok (.invokespecial 163, 3) := by decide +kernel
theorem dX10_leaving_30 : decode cX10_leaving 30 = .ok (.astore_n 1, 1) := by decide +kernel
theorem dX10_leaving_31 : decode cX10_leaving 31 = .ok (.aload_n 1, 1) := by decide +kernel
theorem dX10_leaving_32 : decode cX10_leaving 32 = .ok (.getfield 166, 3) := by decide +kernel
theorem dX10_leaving_35 : decode cX10_leaving 35 = .ok (.ifCond .eq 7, 3) := by decide +kernel
theorem dX10_leaving_38 : decode cX10_leaving 38 = .ok (.aconst_null, 1) := by decide +kernel
theorem dX10_leaving_39 : decode cX10_leaving 39 = .ok (.goto 7, 3) := by decide +kernel
theorem dX10_leaving_42 : decode cX10_leaving 42 = .ok (.aload_n 1, 1) := by decide +kernel
theorem dX10_leaving_43 : decode cX10_leaving 43 = .ok (.getfield 170, 3) := by decide +kernel
theorem dX10_leaving_46 : decode cX10_leaving 46 = .ok (.areturn, 1) := by decide +kernel
theorem dX10_rest_0 : decode cX10_rest 0 = .ok (.aload_n 0, 1) := by decide +kernel
theorem dX10_rest_1 : decode cX10_rest 1 = .ok (.iload_n 1, 1) := by decide +kernel
theorem dX10_rest_2 : decode cX10_rest 2 = .ok (.invokestatic 42, 3) := by decide +kernel
theorem dX10_rest_5 : decode cX10_rest 5 = .ok (.ifCond .ne 7, 3) := by decide +kernel
theorem dX10_rest_8 : decode cX10_rest 8 = .ok (.iconst 1, 1) := by decide +kernel
theorem dX10_rest_9 : decode cX10_rest 9 = .ok (.goto 4, 3) := by decide +kernel
theorem dX10_rest_12 : decode cX10_rest 12 = .ok (.iconst 0, 1) := by decide +kernel
theorem dX10_rest_13 : decode cX10_rest 13 = .ok (.invokevirtual 105, 3) := by decide +kernel
theorem dX10_rest_16 : decode cX10_rest 16 = .ok (.ifCond .eq 6, 3) := by decide +kernel
theorem dX10_rest_19 : decode cX10_rest 19 = .ok (.ldc 205, 2) := by decide +kernel
theorem dX10_rest_21 : decode cX10_rest 21 = .ok (.areturn, 1) := by decide +kernel
theorem dX10_rest_22 : decode cX10_rest 22 = .ok (.aload_n 0, 1) := by decide +kernel
theorem dX10_rest_23 : decode cX10_rest 23 = .ok (.getfield 21, 3) := by decide +kernel
theorem dX10_rest_26 : decode cX10_rest 26 = .ok (.iload_n 1, 1) := by decide +kernel
theorem dX10_rest_27 : decode cX10_rest 27 = .ok (.aaload, 1) := by decide +kernel
theorem dX10_rest_28 : decode cX10_rest 28 = .ok (.invokestatic 265, 3) := by decide +kernel
theorem dX10_rest_31 : decode cX10_rest 31 = .ok (.astore_n 3, 1) := by decide +kernel
theorem dX10_rest_32 : decode cX10_rest 32 = .ok (.aload_n 0, 1) := by decide +kernel
theorem dX10_rest_33 : decode cX10_rest 33 = .ok (.iconst 0, 1) := by decide +kernel
theorem dX10_rest_34 : decode cX10_rest 34 = .ok (.aload_n 3, 1) := by decide +kernel
theorem dX10_rest_35 : decode cX10_rest 35 = .ok (.ifnonnull 7, 3) := by decide +kernel
theorem dX10_rest_38 : decode cX10_rest 38 = .ok (.iconst 1, 1) := by decide +kernel
theorem dX10_rest_39 : decode cX10_rest 39 = .ok (.goto 4, 3) := by decide +kernel
theorem dX10_rest_42 : decode cX10_rest 42 = .ok (.iconst 0, 1) := by decide +kernel
theorem dX10_rest_43 : decode cX10_rest 43 = .ok (.aload_n 3, 1) := by decide +kernel
theorem dX10_rest_44 : decode cX10_rest 44 = .ok (.ifnull 29, 3) := by decide +kernel
theorem dX10_rest_47 : decode cX10_rest 47 = .ok (.iload_n 2, 1) := by decide +kernel
theorem dX10_rest_48 : decode cX10_rest 48 = .ok (.ifCond .lt 21, 3) := by decide +kernel
theorem dX10_rest_51 : decode cX10_rest 51 = .ok (.iload_n 2, 1) := by decide +kernel
theorem dX10_rest_52 : decode cX10_rest 52 = .ok (.i2l, 1) := by decide +kernel
theorem dX10_rest_53 : decode cX10_rest 53 = .ok (.aload_n 0, 1) := by decide +kernel
theorem dX10_rest_54 : decode cX10_rest 54 = .ok (.getfield 21, 3) := by decide +kernel
theorem dX10_rest_57 : decode cX10_rest 57 = .ok (.iload_n 1, 1) := by decide +kernel
theorem dX10_rest_58 : decode cX10_rest 58 = .ok (.aaload, 1) := by decide +kernel
theorem dX10_rest_59 : decode cX10_rest 59 = .ok (.invokestatic 237, 3) := by decide +kernel
theorem dX10_rest_62 : decode cX10_rest 62 = .ok (.invokestatic 1, 3) := by decide +kernel
theorem dX10_rest_65 : decode cX10_rest 65 = .ok (.lcmp, 1) := by decide +kernel
theorem dX10_rest_66 : decode cX10_rest 66 = .ok (.ifCond .lt 7, 3) := by decide +kernel
theorem dX10_rest_69 : decode cX10_rest 69 = .ok (.iconst 1, 1) := by decide +kernel
theorem dX10_rest_70 : decode cX10_rest 70 = .ok (.goto 4, 3) := by decide +kernel
theorem dX10_rest_73 : decode cX10_rest 73 = .ok (.iconst 0, 1) := by decide +kernel
theorem dX10_rest_74 : decode cX10_rest 74 = .ok (.invokevirtual 32, 3) := by decide +kernel
theorem dX10_rest_77 : decode cX10_rest 77 = .ok (.ifCond .eq 6, 3) := by decide +kernel
theorem dX10_rest_80 : decode cX10_rest 80 = .ok (.ldc 205, 2) := by decide +kernel
theorem dX10_rest_82 : decode cX10_rest 82 = .ok (.areturn, 1) := by decide +kernel
theorem dX10_rest_83 : decode cX10_rest 83 = .ok (.aload_n 3, 1) := by decide +kernel
theorem dX10_rest_84 : decode cX10_rest 84 = .ok (.getfield 46, 3) := by decide +kernel
theorem dX10_rest_87 : decode cX10_rest 87 = .ok (.newarray .int, 2) := by decide +kernel
theorem dX10_rest_89 : decode cX10_rest 89 = .ok (.astore 4, 2) := by decide +kernel
theorem dX10_rest_91 : decode cX10_rest 91 = .ok (.iload_n 2, 1) := by decide +kernel
theorem dX10_rest_92 : decode cX10_rest 92 = .ok (.i2l, 1) := by decide +kernel
theorem dX10_rest_93 : decode cX10_rest 93 = .ok (.lstore 5, 2) := by decide +kernel
theorem dX10_rest_95 : decode cX10_rest 95 = .ok (.aload_n 3, 1) := by decide +kernel
theorem dX10_rest_96 : decode cX10_rest 96 = .ok (.getfield 46, 3) := by decide +kernel
theorem dX10_rest_99 : decode cX10_rest 99 = .ok (.iconst 1, 1) := by decide +kernel
theorem dX10_rest_100 : decode cX10_rest 100 = .ok (.isub, 1) := by decide +kernel
theorem dX10_rest_101 : decode cX10_rest 101 = .ok (.istore 7, 2) := by decide +kernel
theorem dX10_rest_103 : decode cX10_rest 103 = .ok (.iload 7, 2) := by decide +kernel
theorem dX10_rest_105 : decode cX10_rest 105 = .ok (.ifCond .lt 39, 3) := by decide +kernel
theorem dX10_rest_108 : decode cX10_rest 108 = .ok (.aload 4, 2) := by decide +kernel
theorem dX10_rest_110 : decode cX10_rest 110 = .ok (.iload 7, 2) := by decide +kernel
theorem dX10_rest_112 : decode cX10_rest 112 = .ok (.lload 5, 2) := by decide +kernel
theorem dX10_rest_114 : decode cX10_rest 114 = .ok (.aload_n 3, 1) := by decide +kernel
theorem dX10_rest_115 : decode cX10_rest 115 = .ok (.iload 7, 2) := by decide +kernel
theorem dX10_rest_117 : decode cX10_rest 117 = .ok (.iload 7, 2) := by decide +kernel
theorem dX10_rest_119 : decode cX10_rest 119 = .ok (.invokevirtual 88, 3) := by decide +kernel
theorem dX10_rest_122 : decode cX10_rest 122 = .ok (.lrem, 1) := by decide +kernel
theorem dX10_rest_123 : decode cX10_rest 123 = .ok (.l2i, 1) := by decide +kernel
theorem dX10_rest_124 : decode cX10_rest 124 = .ok (.iastore, 1) := by decide +kernel
theorem dX10_rest_125 : decode cX10_rest 125 = .ok (.lload 5, 2) := by decide +kernel
theorem dX10_rest_127 : decode cX10_rest 127 = .ok (.aload_n 3, 1) := by decide +kernel
theorem dX10_rest_128 : decode cX10_rest 128 = .ok (.iload 7, 2) := by decide +kernel
theorem dX10_rest_130 : decode cX10_rest 130 = .ok (.iload 7, 2) := by decide +kernel
theorem dX10_rest_132 : decode cX10_rest 132 = .ok (.invokevirtual 88, 3) := by decide +kernel
theorem dX10_rest_135 : decode cX10_rest 135 = .ok (.ldiv, 1) := by decide +kernel
theorem dX10_rest_136 : decode cX10_rest 136 = .ok (.lstore 5, 2) := by decide +kernel
theorem dX10_rest_138 : decode cX10_rest 138 = .ok (.iinc 7 (-1), 3) := by decide +kernel
theorem dX10_rest_141 : decode cX10_rest 141 = .ok (.goto (-38), 3) := by decide +kernel
theorem dX10_rest_144 : decode cX10_rest 144 = .ok (.new 207, 3) := by decide +kernel
theorem dX10_rest_147 : decode cX10_rest 147 = .ok (.dup, 1) := by decide +kernel
theorem dX10_rest_148 : decode cX10_rest 148 = .ok (.invokespecial 209, 3) := by decide +kernel
theorem dX10_rest_151 : decode cX10_rest 151 = .ok (.astore 7, 2) := by decide +kernel
theorem dX10_rest_153 : decode cX10_rest 153 = .ok (.iconst 0, 1) := by decide +kernel
theorem dX10_rest_154 : decode cX10_rest 154 = .ok (.istore 8, 2) := by decide +kernel
theorem dX10_rest_156 : decode cX10_rest 156 = .ok (.iload 8, 2) := by decide +kernel
theorem dX10_rest_158 : decode cX10_rest 158 = .ok (.aload_n 3, 1) := by decide +kernel
theorem dX10_rest_159 : decode cX10_rest 159 = .ok (.getfield 46, 3) := by decide +kernel
theorem dX10_rest_162 : decode cX10_rest 162 = .ok (.if_icmp .ge 35, 3) := by decide +kernel
theorem dX10_rest_165 : decode cX10_rest 165 = .ok (.aload 7, 2) := by decide +kernel
theorem dX10_rest_167 : decode cX10_rest 167 = .ok (.iload 8, 2) := by decide +kernel
theorem dX10_rest_169 : decode cX10_rest 169 = .ok (.ifCond .ne 8, 3) := by decide +kernel
theorem dX10_rest_172 : decode cX10_rest 172 = .ok (.ldc 205, 2) := by decide +kernel
theorem dX10_rest_174 : decode cX10_rest 174 = .ok (.goto 5, 3) := by decide +kernel
theorem dX10_rest_177 : decode cX10_rest 177 = .ok (.ldc 210, 2) := by decide +kernel
theorem dX10_rest_179 : decode cX10_rest 179 = .ok (.invokevirtual 214, 3) := by decide +kernel
theorem dX10_rest_182 : decode cX10_rest 182 = .ok (.aload 4, 2) := by decide +kernel
theorem dX10_rest_184 : decode cX10_rest 184 = .ok (.iload 8, 2) := by decide +kernel
theorem dX10_rest_186 : decode cX10_rest 186 = .ok (.iaload, 1) := by decide +kernel
theorem dX10_rest_187 : decode cX10_rest 187 = .ok (.invokevirtual 268, 3) := by decide +kernel
theorem dX10_rest_190 : decode cX10_rest 190 = .ok (.pop, 1) := by decide +kernel
theorem dX10_rest_191 : decode cX10_rest 191 = .ok (.iinc 8 1, 3) := by decide +kernel
theorem dX10_rest_194 : decode cX10_rest 194 = .ok (.goto (-38), 3) := by decide +kernel
theorem dX10_rest_197 : decode cX10_rest 197 = .ok (.aload 7, 2) := by decide +kernel
theorem dX10_rest_199 : decode cX10_rest 199 = .ok (.invokevirtual 221, 3) := by decide +kernel
theorem dX10_rest_202 : decode cX10_rest 202 = .ok (.areturn, 1) := by decide +kernel
theorem dX10_restOf_0 : decode cX10_restOf 0 = .ok (.aload_n 0, 1) := by decide +kernel
theorem dX10_restOf_1 : decode cX10_restOf 1 = .ok (.iload_n 1, 1) := by decide +kernel
theorem dX10_restOf_2 : decode cX10_restOf 2 = .ok (.invokestatic 42, 3) := by decide +kernel
theorem dX10_restOf_5 : decode cX10_restOf 5 = .ok (.ifCond .eq 12, 3) := by decide +kernel
theorem dX10_restOf_8 : decode cX10_restOf 8 = .ok (.aload_n 0, 1) := by decide +kernel
theorem dX10_restOf_9 : decode cX10_restOf 9 = .ok (.iload_n 2, 1) := by decide +kernel
theorem dX10_restOf_10 : decode cX10_restOf 10 = .ok (.iload_n 3, 1) := by decide +kernel
theorem dX10_restOf_11 : decode cX10_restOf 11 = .ok (.invokevirtual 56, 3) := by decide +kernel
theorem dX10_restOf_14 : decode cX10_restOf 14 = .ok (.ifCond .ne 7, 3) := by decide +kernel
theorem dX10_restOf_17 : decode cX10_restOf 17 = .ok (.iconst 1, 1) := by decide +kernel
theorem dX10_restOf_18 : decode cX10_restOf 18 = .ok (.goto 4, 3) := by decide +kernel
theorem dX10_restOf_21 : decode cX10_restOf 21 = .ok (.iconst 0, 1) := by decide +kernel
theorem dX10_restOf_22 : decode cX10_restOf 22 = .ok (.invokevirtual 105, 3) := by decide +kernel
theorem dX10_restOf_25 : decode cX10_restOf 25 = .ok (.ifCond .eq 5, 3) := by decide +kernel
theorem dX10_restOf_28 : decode cX10_restOf 28 = .ok (.iconst 0, 1) := by decide +kernel
theorem dX10_restOf_29 : decode cX10_restOf 29 = .ok (.ireturn, 1) := by decide +kernel
theorem dX10_restOf_30 : decode cX10_restOf 30 = .ok (.aload_n 0, 1) := by decide +kernel
theorem dX10_restOf_31 : decode cX10_restOf 31 = .ok (.getfield 21, 3) := by decide +kernel
theorem dX10_restOf_34 : decode cX10_restOf 34 = .ok (.iload_n 1, 1) := by decide +kernel
theorem dX10_restOf_35 : decode cX10_restOf 35 = .ok (.aaload, 1) := by decide +kernel
theorem dX10_restOf_36 : decode cX10_restOf 36 = .ok (.astore 4, 2) := by decide +kernel
theorem dX10_restOf_38 : decode cX10_restOf 38 = .ok (.aload_n 0, 1) := by decide +kernel
theorem dX10_restOf_39 : decode cX10_restOf 39 = .ok (.getfield 21, 3) := by decide +kernel
theorem dX10_restOf_42 : decode cX10_restOf 42 = .ok (.iload_n 2, 1) := by decide +kernel
theorem dX10_restOf_43 : decode cX10_restOf 43 = .ok (.aaload, 1) := by decide +kernel
theorem dX10_restOf_44 : decode cX10_restOf 44 = .ok (.astore 5, 2) := by decide +kernel
theorem dX10_restOf_46 : decode cX10_restOf 46 = .ok (.aload 4, 2) := by decide +kernel
theorem dX10_restOf_48 : decode cX10_restOf 48 = .ok (.invokestatic 265, 3) := by decide +kernel
theorem dX10_restOf_51 : decode cX10_restOf 51 = .ok (.astore 6, 2) := by decide +kernel
theorem dX10_restOf_53 : decode cX10_restOf 53 = .ok (.aload_n 0, 1) := by decide +kernel
theorem dX10_restOf_54 : decode cX10_restOf 54 = .ok (.iconst 0, 1) := by decide +kernel
theorem dX10_restOf_55 : decode cX10_restOf 55 = .ok (.aload 6, 2) := by decide +kernel
theorem dX10_restOf_57 : decode cX10_restOf 57 = .ok (.ifnonnull 7, 3) := by decide +kernel
theorem dX10_restOf_60 : decode cX10_restOf 60 = .ok (.iconst 1, 1) := by decide +kernel
theorem dX10_restOf_61 : decode cX10_restOf 61 = .ok (.goto 4, 3) := by decide +kernel
theorem dX10_restOf_64 : decode cX10_restOf 64 = .ok (.iconst 0, 1) := by decide +kernel
theorem dX10_restOf_65 : decode cX10_restOf 65 = .ok (.aload 4, 2) := by decide +kernel
theorem dX10_restOf_67 : decode cX10_restOf 67 = .ok (.getfield 49, 3) := by decide +kernel
theorem dX10_restOf_70 : decode cX10_restOf 70 = .ok (.aload 5, 2) := by decide +kernel
theorem dX10_restOf_72 : decode cX10_restOf 72 = .ok (.getfield 49, 3) := by decide +kernel
theorem dX10_restOf_75 : decode cX10_restOf 75 = .ok (.if_icmp .eq 7, 3) := by decide +kernel
theorem dX10_restOf_78 : decode cX10_restOf 78 = .ok (.iconst 1, 1) := by decide +kernel
theorem dX10_restOf_79 : decode cX10_restOf 79 = .ok (.goto 4, 3) := by decide +kernel
theorem dX10_restOf_82 : decode cX10_restOf 82 = .ok (.iconst 0, 1) := by decide +kernel
theorem dX10_restOf_83 : decode cX10_restOf 83 = .ok (.invokevirtual 32, 3) := by decide +kernel
theorem dX10_restOf_86 : decode cX10_restOf 86 = .ok (.ifCond .eq 5, 3) := by decide +kernel
theorem dX10_restOf_89 : decode cX10_restOf 89 = .ok (.iconst 0, 1) := by decide +kernel
theorem dX10_restOf_90 : decode cX10_restOf 90 = .ok (.ireturn, 1) := by decide +kernel
theorem dX10_restOf_91 : decode cX10_restOf 91 = .ok (.aload 4, 2) := by decide +kernel
theorem dX10_restOf_93 : decode cX10_restOf 93 = .ok (.getfield 49, 3) := by decide +kernel
theorem dX10_restOf_96 : decode cX10_restOf 96 = .ok (.newarray .long, 2) := by decide +kernel
theorem dX10_restOf_98 : decode cX10_restOf 98 = .ok (.astore 7, 2) := by decide +kernel
theorem dX10_restOf_100 : decode cX10_restOf 100 = .ok (.iconst 0, 1) := by decide +kernel
theorem dX10_restOf_101 : decode cX10_restOf 101 = .ok (.istore 8, 2) := by decide +kernel
theorem dX10_restOf_103 : decode cX10_restOf 103 = .ok (.iload 8, 2) := by decide +kernel
theorem dX10_restOf_105 : decode cX10_restOf 105 = .ok (.aload 7, 2) := by decide +kernel
theorem dX10_restOf_107 : decode cX10_restOf 107 = .ok (.arraylength, 1) := by decide +kernel
theorem dX10_restOf_108 : decode cX10_restOf 108 = .ok (.if_icmp .ge 22, 3) := by decide +kernel
theorem dX10_restOf_111 : decode cX10_restOf 111 = .ok (.aload 7, 2) := by decide +kernel
theorem dX10_restOf_113 : decode cX10_restOf 113 = .ok (.iload 8, 2) := by decide +kernel
theorem dX10_restOf_115 : decode cX10_restOf 115 = .ok (.aload 5, 2) := by decide +kernel
theorem dX10_restOf_117 : decode cX10_restOf 117 = .ok (.iload_n 3, 1) := by decide +kernel
theorem dX10_restOf_118 : decode cX10_restOf 118 = .ok (.iload 8, 2) := by decide +kernel
theorem dX10_restOf_120 : decode cX10_restOf 120 = .ok (.invokevirtual 88, 3) := by decide +kernel
theorem dX10_restOf_123 : decode cX10_restOf 123 = .ok (.lastore, 1) := by decide +kernel
theorem dX10_restOf_124 : decode cX10_restOf 124 = .ok (.iinc 8 1, 3) := by decide +kernel
theorem dX10_restOf_127 : decode cX10_restOf 127 = .ok (.goto (-24), 3) := by decide +kernel
theorem dX10_restOf_130 : decode cX10_restOf 130 = .ok (.lconst 0, 1) := by decide +kernel
theorem dX10_restOf_131 : decode cX10_restOf 131 = .ok (.lstore 8, 2) := by decide +kernel
theorem dX10_restOf_133 : decode cX10_restOf 133 = .ok (.iconst 0, 1) := by decide +kernel
theorem dX10_restOf_134 : decode cX10_restOf 134 = .ok (.istore 10, 2) := by decide +kernel
theorem dX10_restOf_136 : decode cX10_restOf 136 = .ok (.iload 10, 2) := by decide +kernel
theorem dX10_restOf_138 : decode cX10_restOf 138 = .ok (.aload 7, 2) := by decide +kernel
theorem dX10_restOf_140 : decode cX10_restOf 140 = .ok (.arraylength, 1) := by decide +kernel
theorem dX10_restOf_141 : decode cX10_restOf 141 = .ok (.if_icmp .ge 85, 3) := by decide +kernel
theorem dX10_restOf_144 : decode cX10_restOf 144 = .ok (.aload 7, 2) := by decide +kernel
theorem dX10_restOf_146 : decode cX10_restOf 146 = .ok (.iload 10, 2) := by decide +kernel
theorem dX10_restOf_148 : decode cX10_restOf 148 = .ok (.laload, 1) := by decide +kernel
theorem dX10_restOf_149 : decode cX10_restOf 149 = .ok (.aload 6, 2) := by decide +kernel
theorem dX10_restOf_151 : decode cX10_restOf 151 = .ok (.iload 10, 2) := by decide +kernel
theorem dX10_restOf_153 : decode cX10_restOf 153 = .ok (.iload 10, 2) := by decide +kernel
theorem dX10_restOf_155 : decode cX10_restOf 155 = .ok (.invokevirtual 88, 3) := by decide +kernel
theorem dX10_restOf_158 : decode cX10_restOf 158 = .ok (.invokestatic 271, 3) := by decide +kernel
theorem dX10_restOf_161 : decode cX10_restOf 161 = .ok (.lstore 11, 2) := by decide +kernel
theorem dX10_restOf_163 : decode cX10_restOf 163 = .ok (.iconst 0, 1) := by decide +kernel
theorem dX10_restOf_164 : decode cX10_restOf 164 = .ok (.istore 13, 2) := by decide +kernel
theorem dX10_restOf_166 : decode cX10_restOf 166 = .ok (.iload 13, 2) := by decide +kernel
theorem dX10_restOf_168 : decode cX10_restOf 168 = .ok (.aload 7, 2) := by decide +kernel
theorem dX10_restOf_170 : decode cX10_restOf 170 = .ok (.arraylength, 1) := by decide +kernel
theorem dX10_restOf_171 : decode cX10_restOf 171 = .ok (.if_icmp .ge 29, 3) := by decide +kernel
theorem dX10_restOf_174 : decode cX10_restOf 174 = .ok (.aload 7, 2) := by decide +kernel
theorem dX10_restOf_176 : decode cX10_restOf 176 = .ok (.iload 13, 2) := by decide +kernel
theorem dX10_restOf_178 : decode cX10_restOf 178 = .ok (.dup2, 1) := by decide +kernel
theorem dX10_restOf_179 : decode cX10_restOf 179 = .ok (.laload, 1) := by decide +kernel
theorem dX10_restOf_180 : decode cX10_restOf 180 = .ok (.lload 11, 2) := by decide +kernel
theorem dX10_restOf_182 : decode cX10_restOf 182 = .ok (.aload 6, 2) := by decide +kernel
theorem dX10_restOf_184 : decode cX10_restOf 184 = .ok (.iload 10, 2) := by decide +kernel
theorem dX10_restOf_186 : decode cX10_restOf 186 = .ok (.iload 13, 2) := by decide +kernel
theorem dX10_restOf_188 : decode cX10_restOf 188 = .ok (.invokevirtual 88, 3) := by decide +kernel
theorem dX10_restOf_191 : decode cX10_restOf 191 = .ok (.lmul, 1) := by decide +kernel
theorem dX10_restOf_192 : decode cX10_restOf 192 = .ok (.lsub, 1) := by decide +kernel
theorem dX10_restOf_193 : decode cX10_restOf 193 = .ok (.lastore, 1) := by decide +kernel
theorem dX10_restOf_194 : decode cX10_restOf 194 = .ok (.iinc 13 1, 3) := by decide +kernel
theorem dX10_restOf_197 : decode cX10_restOf 197 = .ok (.goto (-31), 3) := by decide +kernel
theorem dX10_restOf_200 : decode cX10_restOf 200 = .ok (.lload 8, 2) := by decide +kernel
theorem dX10_restOf_202 : decode cX10_restOf 202 = .ok (.aload 6, 2) := by decide +kernel
theorem dX10_restOf_204 : decode cX10_restOf 204 = .ok (.iload 10, 2) := by decide +kernel
theorem dX10_restOf_206 : decode cX10_restOf 206 = .ok (.iload 10, 2) := by decide +kernel
theorem dX10_restOf_208 : decode cX10_restOf 208 = .ok (.invokevirtual 88, 3) := by decide +kernel
theorem dX10_restOf_211 : decode cX10_restOf 211 = .ok (.lmul, 1) := by decide +kernel
theorem dX10_restOf_212 : decode cX10_restOf 212 = .ok (.aload 7, 2) := by decide +kernel
theorem dX10_restOf_214 : decode cX10_restOf 214 = .ok (.iload 10, 2) := by decide +kernel
theorem dX10_restOf_216 : decode cX10_restOf 216 = .ok (.laload, 1) := by decide +kernel
theorem dX10_restOf_217 : decode cX10_restOf 217 = .ok (.ladd, 1) := by decide +kernel
theorem dX10_restOf_218 : decode cX10_restOf 218 = .ok (.lstore 8, 2) := by decide +kernel
theorem dX10_restOf_220 : decode cX10_restOf 220 = .ok (.iinc 10 1, 3) := by decide +kernel
theorem dX10_restOf_223 : decode cX10_restOf 223 = .ok (.goto (-87), 3) := by decide +kernel
theorem dX10_restOf_226 : decode cX10_restOf 226 = .ok (.lload 8, 2) := by decide +kernel
theorem dX10_restOf_228 : decode cX10_restOf 228 = .ok (.l2i, 1) := by decide +kernel
theorem dX10_restOf_229 : decode cX10_restOf 229 = .ok (.ireturn, 1) := by decide +kernel
theorem dX10_houseNow_0 : decode cX10_houseNow 0 = .ok (.iload_n 1, 1) := by decide +kernel
theorem dX10_houseNow_1 : decode cX10_houseNow 1 = .ok (.iconst 3, 1) := by decide +kernel
theorem dX10_houseNow_2 : decode cX10_houseNow 2 = .ok (.if_icmp .ge 31, 3) := by decide +kernel
theorem dX10_houseNow_5 : decode cX10_houseNow 5 = .ok (.iload_n 1, 1) := by decide +kernel
theorem dX10_houseNow_6 : decode cX10_houseNow 6 = .ok (.ifCond .ne 10, 3) := by decide +kernel
theorem dX10_houseNow_9 : decode cX10_houseNow 9 = .ok (.aload_n 0, 1) := by decide +kernel
theorem dX10_houseNow_10 : decode cX10_houseNow 10 = .ok (.getfield 36, 3) := by decide +kernel
theorem dX10_houseNow_13 : decode cX10_houseNow 13 = .ok (.goto 19, 3) := by decide +kernel
theorem dX10_houseNow_16 : decode cX10_houseNow 16 = .ok (.iload_n 1, 1) := by decide +kernel
theorem dX10_houseNow_17 : decode cX10_houseNow 17 = .ok (.iconst 1, 1) := by decide +kernel
theorem dX10_houseNow_18 : decode cX10_houseNow 18 = .ok (.if_icmp .ne 10, 3) := by decide +kernel
theorem dX10_houseNow_21 : decode cX10_houseNow 21 = .ok (.aload_n 0, 1) := by decide +kernel
theorem dX10_houseNow_22 : decode cX10_houseNow 22 = .ok (.getfield 39, 3) := by decide +kernel
theorem dX10_houseNow_25 : decode cX10_houseNow 25 = .ok (.goto 7, 3) := by decide +kernel
theorem dX10_houseNow_28 : decode cX10_houseNow 28 = .ok (.aload_n 0, 1) := by decide +kernel
theorem dX10_houseNow_29 : decode cX10_houseNow 29 = .ok (.getfield 274, 3) := by decide +kernel
theorem dX10_houseNow_32 : decode cX10_houseNow 32 = .ok (.ireturn, 1) := by decide +kernel
theorem dX10_houseNow_33 : decode cX10_houseNow 33 = .ok (.iconst 0, 1) := by decide +kernel
theorem dX10_houseNow_34 : decode cX10_houseNow 34 = .ok (.istore_n 2, 1) := by decide +kernel
theorem dX10_houseNow_35 : decode cX10_houseNow 35 = .ok (.iconst 0, 1) := by decide +kernel
theorem dX10_houseNow_36 : decode cX10_houseNow 36 = .ok (.istore_n 3, 1) := by decide +kernel
theorem dX10_houseNow_37 : decode cX10_houseNow 37 = .ok (.iload_n 3, 1) := by decide +kernel
theorem dX10_houseNow_38 : decode cX10_houseNow 38 = .ok (.iconst 4, 1) := by decide +kernel
theorem dX10_houseNow_39 : decode cX10_houseNow 39 = .ok (.if_icmp .ge 51, 3) := by decide +kernel
theorem dX10_houseNow_42 : decode cX10_houseNow 42 = .ok (.iconst 0, 1) := by decide +kernel
theorem dX10_houseNow_43 : decode cX10_houseNow 43 = .ok (.istore 4, 2) := by decide +kernel
theorem dX10_houseNow_45 : decode cX10_houseNow 45 = .ok (.iload 4, 2) := by decide +kernel
theorem dX10_houseNow_47 : decode cX10_houseNow 47 = .ok (.iload_n 3, 1) := by decide +kernel
theorem dX10_houseNow_48 : decode cX10_houseNow 48 = .ok (.if_icmp .ge 36, 3) := by decide +kernel
theorem dX10_houseNow_51 : decode cX10_houseNow 51 = .ok (.iload_n 2, 1) := by decide +kernel
theorem dX10_houseNow_52 : decode cX10_houseNow 52 = .ok (.aload_n 0, 1) := by decide +kernel
theorem dX10_houseNow_53 : decode cX10_houseNow 53 = .ok (.getfield 21, 3) := by decide +kernel
theorem dX10_houseNow_56 : decode cX10_houseNow 56 = .ok (.iload_n 3, 1) := by decide +kernel
theorem dX10_houseNow_57 : decode cX10_houseNow 57 = .ok (.aaload, 1) := by decide +kernel
theorem dX10_houseNow_58 : decode cX10_houseNow 58 = .ok (.aload_n 0, 1) := by decide +kernel
theorem dX10_houseNow_59 : decode cX10_houseNow 59 = .ok (.getfield 21, 3) := by decide +kernel
theorem dX10_houseNow_62 : decode cX10_houseNow 62 = .ok (.iload 4, 2) := by decide +kernel
theorem dX10_houseNow_64 : decode cX10_houseNow 64 = .ok (.aaload, 1) := by decide +kernel
theorem dX10_houseNow_65 : decode cX10_houseNow 65 = .ok (.invokevirtual 108, 3) := by decide +kernel
theorem dX10_houseNow_68 : decode cX10_houseNow 68 = .ok (.ifCond .eq 7, 3) := by decide +kernel
theorem dX10_houseNow_71 : decode cX10_houseNow 71 = .ok (.iconst 1, 1) := by decide +kernel
theorem dX10_houseNow_72 : decode cX10_houseNow 72 = .ok (.goto 4, 3) := by decide +kernel
theorem dX10_houseNow_75 : decode cX10_houseNow 75 = .ok (.iconst 0, 1) := by decide +kernel
theorem dX10_houseNow_76 : decode cX10_houseNow 76 = .ok (.iadd, 1) := by decide +kernel
theorem dX10_houseNow_77 : decode cX10_houseNow 77 = .ok (.istore_n 2, 1) := by decide +kernel
theorem dX10_houseNow_78 : decode cX10_houseNow 78 = .ok (.iinc 4 1, 3) := by decide +kernel
theorem dX10_houseNow_81 : decode cX10_houseNow 81 = .ok (.goto (-36), 3) := by decide +kernel
theorem dX10_houseNow_84 : decode cX10_houseNow 84 = .ok (.iinc 3 1, 3) := by decide +kernel
theorem dX10_houseNow_87 : decode cX10_houseNow 87 = .ok (.goto (-50), 3) := by decide +kernel
theorem dX10_houseNow_90 : decode cX10_houseNow 90 = .ok (.iload_n 2, 1) := by decide +kernel
theorem dX10_houseNow_91 : decode cX10_houseNow 91 = .ok (.ireturn, 1) := by decide +kernel
theorem dX10_house_0 : decode cX10_house 0 = .ok (.aload_n 0, 1) := by decide +kernel
theorem dX10_house_1 : decode cX10_house 1 = .ok (.iload_n 1, 1) := by decide +kernel
theorem dX10_house_2 : decode cX10_house 2 = .ok (.ifCond .lt 8, 3) := by decide +kernel
theorem dX10_house_5 : decode cX10_house 5 = .ok (.iload_n 1, 1) := by decide +kernel
theorem dX10_house_6 : decode cX10_house 6 = .ok (.iconst 3, 1) := by decide +kernel
theorem dX10_house_7 : decode cX10_house 7 = .ok (.if_icmp .le 7, 3) := by decide +kernel
theorem dX10_house_10 : decode cX10_house 10 = .ok (.iconst 1, 1) := by decide +kernel
theorem dX10_house_11 : decode cX10_house 11 = .ok (.goto 4, 3) := by decide +kernel
theorem dX10_house_14 : decode cX10_house 14 = .ok (.iconst 0, 1) := by decide +kernel
theorem dX10_house_15 : decode cX10_house 15 = .ok (.invokevirtual 105, 3) := by decide +kernel
theorem dX10_house_18 : decode cX10_house 18 = .ok (.ifCond .eq 7, 3) := by decide +kernel
theorem dX10_house_21 : decode cX10_house 21 = .ok (.iconst 0, 1) := by decide +kernel
theorem dX10_house_22 : decode cX10_house 22 = .ok (.goto 8, 3) := by decide +kernel
theorem dX10_house_25 : decode cX10_house 25 = .ok (.aload_n 0, 1) := by decide +kernel
theorem dX10_house_26 : decode cX10_house 26 = .ok (.iload_n 1, 1) := by decide +kernel
theorem dX10_house_27 : decode cX10_house 27 = .ok (.invokevirtual 277, 3) := by decide +kernel
theorem dX10_house_30 : decode cX10_house 30 = .ok (.ireturn, 1) := by decide +kernel
theorem dX10_knock_0 : decode cX10_knock 0 = .ok (.aload_n 0, 1) := by decide +kernel
theorem dX10_knock_1 : decode cX10_knock 1 = .ok (.iconst 0, 1) := by decide +kernel
theorem dX10_knock_2 : decode cX10_knock 2 = .ok (.putfield 28, 3) := by decide +kernel
theorem dX10_knock_5 : decode cX10_knock 5 = .ok (.aload_n 0, 1) := by decide +kernel
theorem dX10_knock_6 : decode cX10_knock 6 = .ok (.dup, 1) := by decide +kernel
theorem dX10_knock_7 : decode cX10_knock 7 = .ok (.getfield 274, 3) := by decide +kernel
theorem dX10_knock_10 : decode cX10_knock 10 = .ok (.iconst 1, 1) := by decide +kernel
theorem dX10_knock_11 : decode cX10_knock 11 = .ok (.iadd, 1) := by decide +kernel
theorem dX10_knock_12 : decode cX10_knock 12 = .ok (.putfield 274, 3) := by decide +kernel
theorem dX10_knock_15 : decode cX10_knock 15 = .ok (.aload_n 0, 1) := by decide +kernel
theorem dX10_knock_16 : decode cX10_knock 16 = .ok (.getfield 274, 3) := by decide +kernel
theorem dX10_knock_19 : decode cX10_knock 19 = .ok (.ireturn, 1) := by decide +kernel
theorem dX10_isSoundNow_0 : decode cX10_isSoundNow 0 = .ok (.aload_n 0, 1) := by decide +kernel
theorem dX10_isSoundNow_1 : decode cX10_isSoundNow 1 = .ok (.getfield 21, 3) := by decide +kernel
theorem dX10_isSoundNow_4 : decode cX10_isSoundNow 4 = .ok (.iconst 0, 1) := by decide +kernel
theorem dX10_isSoundNow_5 : decode cX10_isSoundNow 5 = .ok (.aaload, 1) := by decide +kernel
theorem dX10_isSoundNow_6 : decode cX10_isSoundNow 6 = .ok (.astore_n 1, 1) := by decide +kernel
theorem dX10_isSoundNow_7 : decode cX10_isSoundNow 7 = .ok (.aload_n 1, 1) := by decide +kernel
theorem dX10_isSoundNow_8 : decode cX10_isSoundNow 8 = .ok (.getfield 46, 3) := by decide +kernel
theorem dX10_isSoundNow_11 : decode cX10_isSoundNow 11 = .ok (.iconst 3, 1) := by decide +kernel
theorem dX10_isSoundNow_12 : decode cX10_isSoundNow 12 = .ok (.if_icmp .gt 11, 3) := by decide +kernel
theorem dX10_isSoundNow_15 : decode cX10_isSoundNow 15 = .ok (.aload_n 1, 1) := by decide +kernel
theorem dX10_isSoundNow_16 : decode cX10_isSoundNow 16 = .ok (.getfield 49, 3) := by decide +kernel
theorem dX10_isSoundNow_19 : decode cX10_isSoundNow 19 = .ok (.iconst 3, 1) := by decide +kernel
theorem dX10_isSoundNow_20 : decode cX10_isSoundNow 20 = .ok (.if_icmp .le 5, 3) := by decide +kernel
theorem dX10_isSoundNow_23 : decode cX10_isSoundNow 23 = .ok (.iconst 1, 1) := by decide +kernel
theorem dX10_isSoundNow_24 : decode cX10_isSoundNow 24 = .ok (.ireturn, 1) := by decide +kernel
theorem dX10_isSoundNow_25 : decode cX10_isSoundNow 25 = .ok (.new 177, 3) := by decide +kernel
theorem dX10_isSoundNow_28 : decode cX10_isSoundNow 28 = .ok (.dup, 1) := by decide +kernel
theorem dX10_isSoundNow_29 : decode cX10_isSoundNow 29 = .ok (.aload_n 1, 1) := by decide +kernel
theorem dX10_isSoundNow_30 : decode cX10_isSoundNow 30 = .ok (.invokespecial 179, 3) := by decide +kernel
theorem dX10_isSoundNow_33 : decode cX10_isSoundNow 33 = .ok (.astore_n 2, 1) := by decide +kernel
theorem dX10_isSoundNow_34 : decode cX10_isSoundNow 34 = .ok (.iconst 1, 1) := by decide +kernel
theorem dX10_isSoundNow_35 : decode cX10_isSoundNow 35 = .ok (.istore_n 3, 1) := by decide +kernel
theorem dX10_isSoundNow_36 : decode cX10_isSoundNow 36 = .ok (.lconst 1, 1) := by decide +kernel
theorem dX10_isSoundNow_37 : decode cX10_isSoundNow 37 = .ok (.lstore 4, 2) := by decide +kernel
theorem dX10_isSoundNow_39 : decode cX10_isSoundNow 39 = .ok (.iconst 0, 1) := by decide +kernel
theorem dX10_isSoundNow_40 : decode cX10_isSoundNow 40 = .ok (.istore 6, 2) := by decide +kernel
theorem dX10_isSoundNow_42 : decode cX10_isSoundNow 42 = .ok (.aload_n 2, 1) := by decide +kernel
theorem dX10_isSoundNow_43 : decode cX10_isSoundNow 43 = .ok (.getfield 180, 3) := by decide +kernel
theorem dX10_isSoundNow_46 : decode cX10_isSoundNow 46 = .ok (.ifCond .ne 65, 3) := by decide +kernel
theorem dX10_isSoundNow_49 : decode cX10_isSoundNow 49 = .ok (.iload 6, 2) := by decide +kernel
theorem dX10_isSoundNow_51 : decode cX10_isSoundNow 51 = .ok (.aload_n 1, 1) := by decide +kernel
theorem dX10_isSoundNow_52 : decode cX10_isSoundNow 52 = .ok (.getfield 46, 3) := by decide +kernel
theorem dX10_isSoundNow_55 : decode cX10_isSoundNow 55 = .ok (.if_icmp .ge 56, 3) := by decide +kernel
theorem dX10_isSoundNow_58 : decode cX10_isSoundNow 58 = .ok (.iload 6, 2) := by decide +kernel
theorem dX10_isSoundNow_60 : decode cX10_isSoundNow 60 = .ok (.aload_n 1, 1) := by decide +kernel
theorem dX10_isSoundNow_61 : decode cX10_isSoundNow 61 = .ok (.getfield 49, 3) := by decide +kernel
theorem dX10_isSoundNow_64 : decode cX10_isSoundNow 64 = .ok (.if_icmp .ge 47, 3) := by decide +kernel
theorem dX10_isSoundNow_67 : decode cX10_isSoundNow 67 = .ok (.lload 4, 2) := by decide +kernel
theorem dX10_isSoundNow_69 : decode cX10_isSoundNow 69 = .ok (.aload_n 2, 1) := by decide +kernel
theorem dX10_isSoundNow_70 : decode cX10_isSoundNow 70 = .ok (.getfield 181, 3) := by decide +kernel
theorem dX10_isSoundNow_73 : decode cX10_isSoundNow 73 = .ok (.iload 6, 2) := by decide +kernel
theorem dX10_isSoundNow_75 : decode cX10_isSoundNow 75 = .ok (.iload 6, 2) := by decide +kernel
theorem dX10_isSoundNow_77 : decode cX10_isSoundNow 77 = .ok (.invokevirtual 88, 3) := by decide +kernel
theorem dX10_isSoundNow_80 : decode cX10_isSoundNow 80 = .ok (.lmul, 1) := by decide +kernel
theorem dX10_isSoundNow_81 : decode cX10_isSoundNow 81 = .ok (.lstore 4, 2) := by decide +kernel
theorem dX10_isSoundNow_83 : decode cX10_isSoundNow 83 = .ok (.iload_n 3, 1) := by decide +kernel
theorem dX10_isSoundNow_84 : decode cX10_isSoundNow 84 = .ok (.lload 4, 2) := by decide +kernel
theorem dX10_isSoundNow_86 : decode cX10_isSoundNow 86 = .ok (.aload_n 1, 1) := by decide +kernel
theorem dX10_isSoundNow_87 : decode cX10_isSoundNow 87 = .ok (.iload 6, 2) := by decide +kernel
theorem dX10_isSoundNow_89 : decode cX10_isSoundNow 89 = .ok (.iconst 1, 1) := by decide +kernel
theorem dX10_isSoundNow_90 : decode cX10_isSoundNow 90 = .ok (.iadd, 1) := by decide +kernel
theorem dX10_isSoundNow_91 : decode cX10_isSoundNow 91 = .ok (.invokevirtual 248, 3) := by decide +kernel
theorem dX10_isSoundNow_94 : decode cX10_isSoundNow 94 = .ok (.lcmp, 1) := by decide +kernel
theorem dX10_isSoundNow_95 : decode cX10_isSoundNow 95 = .ok (.ifCond .ne 7, 3) := by decide +kernel
theorem dX10_isSoundNow_98 : decode cX10_isSoundNow 98 = .ok (.iconst 1, 1) := by decide +kernel
theorem dX10_isSoundNow_99 : decode cX10_isSoundNow 99 = .ok (.goto 4, 3) := by decide +kernel
theorem dX10_isSoundNow_102 : decode cX10_isSoundNow 102 = .ok (.iconst 0, 1) := by decide +kernel
theorem dX10_isSoundNow_103 : decode cX10_isSoundNow 103 = .ok (.iand, 1) := by decide +kernel
theorem dX10_isSoundNow_104 : decode cX10_isSoundNow 104 = .ok (.istore_n 3, 1) := by decide +kernel
theorem dX10_isSoundNow_105 : decode cX10_isSoundNow 105 = .ok (.iinc 6 1, 3) := by decide +kernel
theorem dX10_isSoundNow_108 : decode cX10_isSoundNow 108 = .ok (.goto (-66), 3) := by decide +kernel
theorem dX10_isSoundNow_111 : decode cX10_isSoundNow 111 = .ok (.iload_n 3, 1) := by decide +kernel
theorem dX10_isSoundNow_112 : decode cX10_isSoundNow 112 = .ok (.aload_n 2, 1) := by decide +kernel
theorem dX10_isSoundNow_113 : decode cX10_isSoundNow 113 = .ok (.getfield 180, 3) := by decide +kernel
theorem dX10_isSoundNow_116 : decode cX10_isSoundNow 116 = .ok (.ifCond .ne 39, 3) := by decide +kernel
theorem dX10_isSoundNow_119 : decode cX10_isSoundNow 119 = .ok (.aload_n 2, 1) := by decide +kernel
theorem dX10_isSoundNow_120 : decode cX10_isSoundNow 120 = .ok (.getfield 192, 3) := by decide +kernel
theorem dX10_isSoundNow_123 : decode cX10_isSoundNow 123 = .ok (.aload_n 1, 1) := by decide +kernel
theorem dX10_isSoundNow_124 : decode cX10_isSoundNow 124 = .ok (.invokevirtual 252, 3) := by decide +kernel
theorem dX10_isSoundNow_127 : decode cX10_isSoundNow 127 = .ok (.if_icmp .ne 32, 3) := by decide +kernel
theorem dX10_isSoundNow_130 : decode cX10_isSoundNow 130 = .ok (.aload_n 2, 1) := by decide +kernel
theorem dX10_isSoundNow_131 : decode cX10_isSoundNow 131 = .ok (.getfield 182, 3) := by decide +kernel
theorem dX10_isSoundNow_134 : decode cX10_isSoundNow 134 = .ok (.aload_n 1, 1) := by decide +kernel
theorem dX10_isSoundNow_135 : decode cX10_isSoundNow 135 = .ok (.invokevirtual 158, 3) := by decide +kernel
theorem dX10_isSoundNow_138 : decode cX10_isSoundNow 138 = .ok (.aload_n 2, 1) := by decide +kernel
theorem dX10_isSoundNow_139 : decode cX10_isSoundNow 139 = .ok (.getfield 185, 3) := by decide +kernel
theorem dX10_isSoundNow_142 : decode cX10_isSoundNow 142 = .ok (.invokevirtual 158, 3) := by decide +kernel
theorem dX10_isSoundNow_145 : decode cX10_isSoundNow 145 = .ok (.aload_n 2, 1) := by decide +kernel
theorem dX10_isSoundNow_146 : decode cX10_isSoundNow 146 = .ok (.getfield 181, 3) := by decide +kernel
theorem dX10_isSoundNow_149 : decode cX10_isSoundNow 149 = .ok (.invokevirtual 108, 3) := by decide +kernel
theorem dX10_isSoundNow_152 : decode cX10_isSoundNow 152 = .ok (.ifCond .eq 7, 3) := by decide +kernel
theorem dX10_isSoundNow_155 : decode cX10_isSoundNow 155 = .ok (.iconst 1, 1) := by decide +kernel
theorem dX10_isSoundNow_156 : decode cX10_isSoundNow 156 = .ok (.goto 4, 3) := by decide +kernel
theorem dX10_isSoundNow_159 : decode cX10_isSoundNow 159 = .ok (.iconst 0, 1) := by decide +kernel
theorem dX10_isSoundNow_160 : decode cX10_isSoundNow 160 = .ok (.iand, 1) := by decide +kernel
theorem dX10_isSoundNow_161 : decode cX10_isSoundNow 161 = .ok (.istore_n 3, 1) := by decide +kernel
theorem dX10_isSoundNow_162 : decode cX10_isSoundNow 162 = .ok (.iload_n 3, 1) := by decide +kernel
theorem dX10_isSoundNow_163 : decode cX10_isSoundNow 163 = .ok (.ifCond .eq 32, 3) := by decide +kernel
theorem dX10_isSoundNow_166 : decode cX10_isSoundNow 166 = .ok (.aload_n 1, 1) := by decide +kernel
theorem dX10_isSoundNow_167 : decode cX10_isSoundNow 167 = .ok (.getfield 46, 3) := by decide +kernel
theorem dX10_isSoundNow_170 : decode cX10_isSoundNow 170 = .ok (.aload_n 1, 1) := by decide +kernel
theorem dX10_isSoundNow_171 : decode cX10_isSoundNow 171 = .ok (.getfield 49, 3) := by decide +kernel
theorem dX10_isSoundNow_174 : decode cX10_isSoundNow 174 = .ok (.if_icmp .ne 17, 3) := by decide +kernel
theorem dX10_isSoundNow_177 : decode cX10_isSoundNow 177 = .ok (.aload_n 1, 1) := by decide +kernel
theorem dX10_isSoundNow_178 : decode cX10_isSoundNow 178 = .ok (.invokestatic 237, 3) := by decide +kernel
theorem dX10_isSoundNow_181 : decode cX10_isSoundNow 181 = .ok (.aload_n 1, 1) := by decide +kernel
theorem dX10_isSoundNow_182 : decode cX10_isSoundNow 182 = .ok (.iconst 0, 1) := by decide +kernel
theorem dX10_isSoundNow_183 : decode cX10_isSoundNow 183 = .ok (.iconst 0, 1) := by decide +kernel
theorem dX10_isSoundNow_184 : decode cX10_isSoundNow 184 = .ok (.invokestatic 233, 3) := by decide +kernel
theorem dX10_isSoundNow_187 : decode cX10_isSoundNow 187 = .ok (.lcmp, 1) := by decide +kernel
theorem dX10_isSoundNow_188 : decode cX10_isSoundNow 188 = .ok (.ifCond .ne 7, 3) := by decide +kernel
theorem dX10_isSoundNow_191 : decode cX10_isSoundNow 191 = .ok (.iconst 1, 1) := by decide +kernel
theorem dX10_isSoundNow_192 : decode cX10_isSoundNow 192 = .ok (.goto 4, 3) := by decide +kernel
theorem dX10_isSoundNow_195 : decode cX10_isSoundNow 195 = .ok (.iconst 0, 1) := by decide +kernel
theorem dX10_isSoundNow_196 : decode cX10_isSoundNow 196 = .ok (.ireturn, 1) := by decide +kernel
theorem dX10_isSound_0 : decode cX10_isSound 0 = .ok (.aload_n 0, 1) := by decide +kernel
theorem dX10_isSound_1 : decode cX10_isSound 1 = .ok (.iconst 0, 1) := by decide +kernel
theorem dX10_isSound_2 : decode cX10_isSound 2 = .ok (.putfield 28, 3) := by decide +kernel
theorem dX10_isSound_5 : decode cX10_isSound 5 = .ok (.aload_n 0, 1) := by decide +kernel
theorem dX10_isSound_6 : decode cX10_isSound 6 = .ok (.invokevirtual 280, 3) := by decide +kernel
theorem dX10_isSound_9 : decode cX10_isSound 9 = .ok (.ireturn, 1) := by decide +kernel
theorem dX10_digest_0 : decode cX10_digest 0 = .ok (.aload_n 0, 1) := by decide +kernel
theorem dX10_digest_1 : decode cX10_digest 1 = .ok (.iconst 0, 1) := by decide +kernel
theorem dX10_digest_2 : decode cX10_digest 2 = .ok (.putfield 28, 3) := by decide +kernel
theorem dX10_digest_5 : decode cX10_digest 5 = .ok (.ldc2_w 283, 3) := by decide +kernel
theorem dX10_digest_8 : decode cX10_digest 8 = .ok (.lstore_n 1, 1) := by decide +kernel
theorem dX10_digest_9 : decode cX10_digest 9 = .ok (.aload_n 0, 1) := by decide +kernel
theorem dX10_digest_10 : decode cX10_digest 10 = .ok (.getfield 21, 3) := by decide +kernel
theorem dX10_digest_13 : decode cX10_digest 13 = .ok (.astore_n 3, 1) := by decide +kernel
theorem dX10_digest_14 : decode cX10_digest 14 = .ok (.aload_n 3, 1) := by decide +kernel
theorem dX10_digest_15 : decode cX10_digest 15 = .ok (.arraylength, 1) := by decide +kernel
theorem dX10_digest_16 : decode cX10_digest 16 = .ok (.istore 4, 2) := by decide +kernel
theorem dX10_digest_18 : decode cX10_digest 18 = .ok (.iconst 0, 1) := by decide +kernel
theorem dX10_digest_19 : decode cX10_digest 19 = .ok (.istore 5, 2) := by decide +kernel
theorem dX10_digest_21 : decode cX10_digest 21 = .ok (.iload 5, 2) := by decide +kernel
theorem dX10_digest_23 : decode cX10_digest 23 = .ok (.iload 4, 2) := by decide +kernel
theorem dX10_digest_25 : decode cX10_digest 25 = .ok (.if_icmp .ge 93, 3) := by decide +kernel
theorem dX10_digest_28 : decode cX10_digest 28 = .ok (.aload_n 3, 1) := by decide +kernel
theorem dX10_digest_29 : decode cX10_digest 29 = .ok (.iload 5, 2) := by decide +kernel
theorem dX10_digest_31 : decode cX10_digest 31 = .ok (.aaload, 1) := by decide +kernel
theorem dX10_digest_32 : decode cX10_digest 32 = .ok (.astore 6, 2) := by decide +kernel
theorem dX10_digest_34 : decode cX10_digest 34 = .ok (.lload_n 1, 1) := by decide +kernel
theorem dX10_digest_35 : decode cX10_digest 35 = .ok (.ldc2_w 285, 3) := by decide +kernel
theorem dX10_digest_38 : decode cX10_digest 38 = .ok (.lmul, 1) := by decide +kernel
theorem dX10_digest_39 : decode cX10_digest 39 = .ok (.aload 6, 2) := by decide +kernel
theorem dX10_digest_41 : decode cX10_digest 41 = .ok (.getfield 46, 3) := by decide +kernel
theorem dX10_digest_44 : decode cX10_digest 44 = .ok (.i2l, 1) := by decide +kernel
theorem dX10_digest_45 : decode cX10_digest 45 = .ok (.ladd, 1) := by decide +kernel
theorem dX10_digest_46 : decode cX10_digest 46 = .ok (.ldc2_w 285, 3) := by decide +kernel
theorem dX10_digest_49 : decode cX10_digest 49 = .ok (.lmul, 1) := by decide +kernel
theorem dX10_digest_50 : decode cX10_digest 50 = .ok (.aload 6, 2) := by decide +kernel
theorem dX10_digest_52 : decode cX10_digest 52 = .ok (.getfield 49, 3) := by decide +kernel
theorem dX10_digest_55 : decode cX10_digest 55 = .ok (.i2l, 1) := by decide +kernel
theorem dX10_digest_56 : decode cX10_digest 56 = .ok (.ladd, 1) := by decide +kernel
theorem dX10_digest_57 : decode cX10_digest 57 = .ok (.lstore_n 1, 1) := by decide +kernel
theorem dX10_digest_58 : decode cX10_digest 58 = .ok (.iconst 0, 1) := by decide +kernel
theorem dX10_digest_59 : decode cX10_digest 59 = .ok (.istore 7, 2) := by decide +kernel
theorem dX10_digest_61 : decode cX10_digest 61 = .ok (.iload 7, 2) := by decide +kernel
theorem dX10_digest_63 : decode cX10_digest 63 = .ok (.aload 6, 2) := by decide +kernel
theorem dX10_digest_65 : decode cX10_digest 65 = .ok (.getfield 46, 3) := by decide +kernel
theorem dX10_digest_68 : decode cX10_digest 68 = .ok (.if_icmp .ge 44, 3) := by decide +kernel
theorem dX10_digest_71 : decode cX10_digest 71 = .ok (.iconst 0, 1) := by decide +kernel
theorem dX10_digest_72 : decode cX10_digest 72 = .ok (.istore 8, 2) := by decide +kernel
theorem dX10_digest_74 : decode cX10_digest 74 = .ok (.iload 8, 2) := by decide +kernel
theorem dX10_digest_76 : decode cX10_digest 76 = .ok (.aload 6, 2) := by decide +kernel
theorem dX10_digest_78 : decode cX10_digest 78 = .ok (.getfield 49, 3) := by decide +kernel
theorem dX10_digest_81 : decode cX10_digest 81 = .ok (.if_icmp .ge 25, 3) := by decide +kernel
theorem dX10_digest_84 : decode cX10_digest 84 = .ok (.lload_n 1, 1) := by decide +kernel
theorem dX10_digest_85 : decode cX10_digest 85 = .ok (.ldc2_w 285, 3) := by decide +kernel
theorem dX10_digest_88 : decode cX10_digest 88 = .ok (.lmul, 1) := by decide +kernel
theorem dX10_digest_89 : decode cX10_digest 89 = .ok (.aload 6, 2) := by decide +kernel
theorem dX10_digest_91 : decode cX10_digest 91 = .ok (.iload 7, 2) := by decide +kernel
theorem dX10_digest_93 : decode cX10_digest 93 = .ok (.iload 8, 2) := by decide +kernel
theorem dX10_digest_95 : decode cX10_digest 95 = .ok (.invokevirtual 88, 3) := by decide +kernel
theorem dX10_digest_98 : decode cX10_digest 98 = .ok (.ladd, 1) := by decide +kernel
theorem dX10_digest_99 : decode cX10_digest 99 = .ok (.lstore_n 1, 1) := by decide +kernel
theorem dX10_digest_100 : decode cX10_digest 100 = .ok (.iinc 8 1, 3) := by decide +kernel
theorem dX10_digest_103 : decode cX10_digest 103 = .ok (.goto (-29), 3) := by decide +kernel
theorem dX10_digest_106 : decode cX10_digest 106 = .ok (.iinc 7 1, 3) := by decide +kernel
theorem dX10_digest_109 : decode cX10_digest 109 = .ok (.goto (-48), 3) := by decide +kernel
theorem dX10_digest_112 : decode cX10_digest 112 = .ok (.iinc 5 1, 3) := by decide +kernel
theorem dX10_digest_115 : decode cX10_digest 115 = .ok (.goto (-94), 3) := by decide +kernel
theorem dX10_digest_118 : decode cX10_digest 118 = .ok (.iconst 0, 1) := by decide +kernel
theorem dX10_digest_119 : decode cX10_digest 119 = .ok (.istore_n 3, 1) := by decide +kernel
theorem dX10_digest_120 : decode cX10_digest 120 = .ok (.iload_n 3, 1) := by decide +kernel
theorem dX10_digest_121 : decode cX10_digest 121 = .ok (.iconst 4, 1) := by decide +kernel
theorem dX10_digest_122 : decode cX10_digest 122 = .ok (.if_icmp .ge 22, 3) := by decide +kernel
theorem dX10_digest_125 : decode cX10_digest 125 = .ok (.lload_n 1, 1) := by decide +kernel
theorem dX10_digest_126 : decode cX10_digest 126 = .ok (.ldc2_w 285, 3) := by decide +kernel
theorem dX10_digest_129 : decode cX10_digest 129 = .ok (.lmul, 1) := by decide +kernel
theorem dX10_digest_130 : decode cX10_digest 130 = .ok (.aload_n 0, 1) := by decide +kernel
theorem dX10_digest_131 : decode cX10_digest 131 = .ok (.iload_n 3, 1) := by decide +kernel
theorem dX10_digest_132 : decode cX10_digest 132 = .ok (.invokevirtual 277, 3) := by decide +kernel
theorem dX10_digest_135 : decode cX10_digest 135 = .ok (.i2l, 1) := by decide +kernel
theorem dX10_digest_136 : decode cX10_digest 136 = .ok (.ladd, 1) := by decide +kernel
theorem dX10_digest_137 : decode cX10_digest 137 = .ok (.lstore_n 1, 1) := by decide +kernel
theorem dX10_digest_138 : decode cX10_digest 138 = .ok (.iinc 3 1, 3) := by decide +kernel
theorem dX10_digest_141 : decode cX10_digest 141 = .ok (.goto (-21), 3) := by decide +kernel
theorem dX10_digest_144 : decode cX10_digest 144 = .ok (.lload_n 1, 1) := by decide +kernel
theorem dX10_digest_145 : decode cX10_digest 145 = .ok (.ldc2_w 285, 3) := by decide +kernel
theorem dX10_digest_148 : decode cX10_digest 148 = .ok (.lmul, 1) := by decide +kernel
theorem dX10_digest_149 : decode cX10_digest 149 = .ok (.aload_n 0, 1) := by decide +kernel
theorem dX10_digest_150 : decode cX10_digest 150 = .ok (.invokevirtual 280, 3) := by decide +kernel
theorem dX10_digest_153 : decode cX10_digest 153 = .ok (.ifCond .eq 7, 3) := by decide +kernel
theorem dX10_digest_156 : decode cX10_digest 156 = .ok (.iconst 1, 1) := by decide +kernel
theorem dX10_digest_157 : decode cX10_digest 157 = .ok (.goto 4, 3) := by decide +kernel
theorem dX10_digest_160 : decode cX10_digest 160 = .ok (.iconst 0, 1) := by decide +kernel
theorem dX10_digest_161 : decode cX10_digest 161 = .ok (.i2l, 1) := by decide +kernel
theorem dX10_digest_162 : decode cX10_digest 162 = .ok (.ladd, 1) := by decide +kernel
theorem dX10_digest_163 : decode cX10_digest 163 = .ok (.lreturn, 1) := by decide +kernel
