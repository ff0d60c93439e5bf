theorem dX0_byFirstRow_0 : decode cX0_byFirstRow 0 = .ok (.aload_n 0, 1) := by decide +kernel
theorem dX0_byFirstRow_1 : decode cX0_byFirstRow 1 = .ok (.iconst 1, 1) := by decide +kernel
theorem dX0_byFirstRow_2 : decode cX0_byFirstRow 2 = .ok (.aload_n 0, 1) := by decide +kernel
theorem dX0_byFirstRow_3 : decode cX0_byFirstRow 3 = .ok (.getfield 9, 3) := by decide +kernel
theorem dX0_byFirstRow_6 : decode cX0_byFirstRow 6 = .ok (.ishl, 1) := by decide +kernel
theorem dX0_byFirstRow_7 : decode cX0_byFirstRow 7 = .ok (.iconst 1, 1) := by decide +kernel
theorem dX0_byFirstRow_8 : decode cX0_byFirstRow 8 = .ok (.isub, 1) := by decide +kernel
theorem dX0_byFirstRow_9 : decode cX0_byFirstRow 9 = .ok (.iconst 1, 1) := by decide +kernel
theorem dX0_byFirstRow_10 : decode cX0_byFirstRow 10 = .ok (.aload_n 0, 1) := by decide +kernel
theorem dX0_byFirstRow_11 : decode cX0_byFirstRow 11 = .ok (.getfield 15, 3) := by decide +kernel
theorem dX0_byFirstRow_14 : decode cX0_byFirstRow 14 = .ok (.ishl, 1) := by decide +kernel
theorem dX0_byFirstRow_15 : decode cX0_byFirstRow 15 = .ok (.iconst 1, 1) := by decide +kernel
theorem dX0_byFirstRow_16 : decode cX0_byFirstRow 16 = .ok (.isub, 1) := by decide +kernel
theorem dX0_byFirstRow_17 : decode cX0_byFirstRow 17 = .ok (.iconst 0, 1) := by decide +kernel
theorem dX0_byFirstRow_18 : decode cX0_byFirstRow 18 = .ok (.invokestatic 18, 3) := by decide +kernel
theorem dX0_byFirstRow_21 : decode cX0_byFirstRow 21 = .ok (.lreturn, 1) := by decide +kernel
theorem dX0_ofRest_0 : decode cX0_ofRest 0 = .ok (.iload_n 3, 1) := by decide +kernel
theorem dX0_ofRest_1 : decode cX0_ofRest 1 = .ok (.iconst 4, 1) := by decide +kernel
theorem dX0_ofRest_2 : decode cX0_ofRest 2 = .ok (.if_icmp .lt 5, 3) := by decide +kernel
theorem dX0_ofRest_5 : decode cX0_ofRest 5 = .ok (.lconst 1, 1) := by decide +kernel
theorem dX0_ofRest_6 : decode cX0_ofRest 6 = .ok (.lreturn, 1) := by decide +kernel
theorem dX0_ofRest_7 : decode cX0_ofRest 7 = .ok (.iload_n 1, 1) := by decide +kernel
theorem dX0_ofRest_8 : decode cX0_ofRest 8 = .ok (.iload_n 3, 1) := by decide +kernel
theorem dX0_ofRest_9 : decode cX0_ofRest 9 = .ok (.ishr, 1) := by decide +kernel
theorem dX0_ofRest_10 : decode cX0_ofRest 10 = .ok (.iconst 1, 1) := by decide +kernel
theorem dX0_ofRest_11 : decode cX0_ofRest 11 = .ok (.iand, 1) := by decide +kernel
theorem dX0_ofRest_12 : decode cX0_ofRest 12 = .ok (.ifCond .ne 13, 3) := by decide +kernel
theorem dX0_ofRest_15 : decode cX0_ofRest 15 = .ok (.aload_n 0, 1) := by decide +kernel
theorem dX0_ofRest_16 : decode cX0_ofRest 16 = .ok (.iload_n 1, 1) := by decide +kernel
theorem dX0_ofRest_17 : decode cX0_ofRest 17 = .ok (.iload_n 2, 1) := by decide +kernel
theorem dX0_ofRest_18 : decode cX0_ofRest 18 = .ok (.iload_n 3, 1) := by decide +kernel
theorem dX0_ofRest_19 : decode cX0_ofRest 19 = .ok (.iconst 1, 1) := by decide +kernel
theorem dX0_ofRest_20 : decode cX0_ofRest 20 = .ok (.iadd, 1) := by decide +kernel
theorem dX0_ofRest_21 : decode cX0_ofRest 21 = .ok (.invokestatic 18, 3) := by decide +kernel
theorem dX0_ofRest_24 : decode cX0_ofRest 24 = .ok (.lreturn, 1) := by decide +kernel
theorem dX0_ofRest_25 : decode cX0_ofRest 25 = .ok (.lconst 0, 1) := by decide +kernel
theorem dX0_ofRest_26 : decode cX0_ofRest 26 = .ok (.lstore 4, 2) := by decide +kernel
theorem dX0_ofRest_28 : decode cX0_ofRest 28 = .ok (.iconst 0, 1) := by decide +kernel
theorem dX0_ofRest_29 : decode cX0_ofRest 29 = .ok (.istore 6, 2) := by decide +kernel
theorem dX0_ofRest_31 : decode cX0_ofRest 31 = .ok (.iconst 0, 1) := by decide +kernel
theorem dX0_ofRest_32 : decode cX0_ofRest 32 = .ok (.istore 7, 2) := by decide +kernel
theorem dX0_ofRest_34 : decode cX0_ofRest 34 = .ok (.iload 7, 2) := by decide +kernel
theorem dX0_ofRest_36 : decode cX0_ofRest 36 = .ok (.iconst 5, 1) := by decide +kernel
theorem dX0_ofRest_37 : decode cX0_ofRest 37 = .ok (.if_icmp .ge 74, 3) := by decide +kernel
theorem dX0_ofRest_40 : decode cX0_ofRest 40 = .ok (.iload_n 2, 1) := by decide +kernel
theorem dX0_ofRest_41 : decode cX0_ofRest 41 = .ok (.iload 7, 2) := by decide +kernel
theorem dX0_ofRest_43 : decode cX0_ofRest 43 = .ok (.ishr, 1) := by decide +kernel
theorem dX0_ofRest_44 : decode cX0_ofRest 44 = .ok (.iconst 1, 1) := by decide +kernel
theorem dX0_ofRest_45 : decode cX0_ofRest 45 = .ok (.iand, 1) := by decide +kernel
theorem dX0_ofRest_46 : decode cX0_ofRest 46 = .ok (.ifCond .eq 59, 3) := by decide +kernel
theorem dX0_ofRest_49 : decode cX0_ofRest 49 = .ok (.aload_n 0, 1) := by decide +kernel
theorem dX0_ofRest_50 : decode cX0_ofRest 50 = .ok (.iload_n 3, 1) := by decide +kernel
theorem dX0_ofRest_51 : decode cX0_ofRest 51 = .ok (.iload 7, 2) := by decide +kernel
theorem dX0_ofRest_53 : decode cX0_ofRest 53 = .ok (.invokevirtual 24, 3) := by decide +kernel
theorem dX0_ofRest_56 : decode cX0_ofRest 56 = .ok (.aload_n 0, 1) := by decide +kernel
theorem dX0_ofRest_57 : decode cX0_ofRest 57 = .ok (.iload_n 1, 1) := by decide +kernel
theorem dX0_ofRest_58 : decode cX0_ofRest 58 = .ok (.iload_n 2, 1) := by decide +kernel
theorem dX0_ofRest_59 : decode cX0_ofRest 59 = .ok (.iconst 1, 1) := by decide +kernel
theorem dX0_ofRest_60 : decode cX0_ofRest 60 = .ok (.iload 7, 2) := by decide +kernel
theorem dX0_ofRest_62 : decode cX0_ofRest 62 = .ok (.ishl, 1) := by decide +kernel
theorem dX0_ofRest_63 : decode cX0_ofRest 63 = .ok (.iconst (-1), 1) := by decide +kernel
theorem dX0_ofRest_64 : decode cX0_ofRest 64 = .ok (.ixor, 1) := by decide +kernel
theorem dX0_ofRest_65 : decode cX0_ofRest 65 = .ok (.iand, 1) := by decide +kernel
theorem dX0_ofRest_66 : decode cX0_ofRest 66 = .ok (.iload_n 3, 1) := by decide +kernel
theorem dX0_ofRest_67 : decode cX0_ofRest 67 = .ok (.iconst 1, 1) := by decide +kernel
theorem dX0_ofRest_68 : decode cX0_ofRest 68 = .ok (.iadd, 1) := by decide +kernel
theorem dX0_ofRest_69 : decode cX0_ofRest 69 = .ok (.invokestatic 18, 3) := by decide +kernel
theorem dX0_ofRest_72 : decode cX0_ofRest 72 = .ok (.lmul, 1) := by decide +kernel
theorem dX0_ofRest_73 : decode cX0_ofRest 73 = .ok (.lstore 8, 2) := by decide +kernel
theorem dX0_ofRest_75 : decode cX0_ofRest 75 = .ok (.lload 4, 2) := by decide +kernel
theorem dX0_ofRest_77 : decode cX0_ofRest 77 = .ok (.iload 6, 2) := by decide +kernel
theorem dX0_ofRest_79 : decode cX0_ofRest 79 = .ok (.ifCond .eq 9, 3) := by decide +kernel
theorem dX0_ofRest_82 : decode cX0_ofRest 82 = .ok (.lload 8, 2) := by decide +kernel
theorem dX0_ofRest_84 : decode cX0_ofRest 84 = .ok (.lneg, 1) := by decide +kernel
theorem dX0_ofRest_85 : decode cX0_ofRest 85 = .ok (.goto 5, 3) := by decide +kernel
theorem dX0_ofRest_88 : decode cX0_ofRest 88 = .ok (.lload 8, 2) := by decide +kernel
theorem dX0_ofRest_90 : decode cX0_ofRest 90 = .ok (.ladd, 1) := by decide +kernel
theorem dX0_ofRest_91 : decode cX0_ofRest 91 = .ok (.lstore 4, 2) := by decide +kernel
theorem dX0_ofRest_93 : decode cX0_ofRest 93 = .ok (.iload 6, 2) := by decide +kernel
theorem dX0_ofRest_95 : decode cX0_ofRest 95 = .ok (.ifCond .ne 7, 3) := by decide +kernel
theorem dX0_ofRest_98 : decode cX0_ofRest 98 = .ok (.iconst 1, 1) := by decide +kernel
theorem dX0_ofRest_99 : decode cX0_ofRest 99 = .ok (.goto 4, 3) := by decide +kernel
theorem dX0_ofRest_102 : decode cX0_ofRest 102 = .ok (.iconst 0, 1) := by decide +kernel
theorem dX0_ofRest_103 : decode cX0_ofRest 103 = .ok (.istore 6, 2) := by decide +kernel
theorem dX0_ofRest_105 : decode cX0_ofRest 105 = .ok (.iinc 7 1, 3) := by decide +kernel
theorem dX0_ofRest_108 : decode cX0_ofRest 108 = .ok (.goto (-74), 3) := by decide +kernel
theorem dX0_ofRest_111 : decode cX0_ofRest 111 = .ok (.lload 4, 2) := by decide +kernel
theorem dX0_ofRest_113 : decode cX0_ofRest 113 = .ok (.lreturn, 1) := by decide +kernel
theorem dX0_bySequences_0 : decode cX0_bySequences 0 = .ok (.iload_n 1, 1) := by decide +kernel
theorem dX0_bySequences_1 : decode cX0_bySequences 1 = .ok (.aload_n 0, 1) := by decide +kernel
theorem dX0_bySequences_2 : decode cX0_bySequences 2 = .ok (.getfield 9, 3) := by decide +kernel
theorem dX0_bySequences_5 : decode cX0_bySequences 5 = .ok (.if_icmp .ge 8, 3) := by decide +kernel
theorem dX0_bySequences_8 : decode cX0_bySequences 8 = .ok (.iload_n 1, 1) := by decide +kernel
theorem dX0_bySequences_9 : decode cX0_bySequences 9 = .ok (.iconst 4, 1) := by decide +kernel
theorem dX0_bySequences_10 : decode cX0_bySequences 10 = .ok (.if_icmp .lt 5, 3) := by decide +kernel
theorem dX0_bySequences_13 : decode cX0_bySequences 13 = .ok (.lconst 1, 1) := by decide +kernel
theorem dX0_bySequences_14 : decode cX0_bySequences 14 = .ok (.lreturn, 1) := by decide +kernel
theorem dX0_bySequences_15 : decode cX0_bySequences 15 = .ok (.lconst 0, 1) := by decide +kernel
theorem dX0_bySequences_16 : decode cX0_bySequences 16 = .ok (.lstore_n 3, 1) := by decide +kernel
theorem dX0_bySequences_17 : decode cX0_bySequences 17 = .ok (.iconst 0, 1) := by decide +kernel
theorem dX0_bySequences_18 : decode cX0_bySequences 18 = .ok (.istore 5, 2) := by decide +kernel
theorem dX0_bySequences_20 : decode cX0_bySequences 20 = .ok (.iload 5, 2) := by decide +kernel
theorem dX0_bySequences_22 : decode cX0_bySequences 22 = .ok (.aload_n 0, 1) := by decide +kernel
theorem dX0_bySequences_23 : decode cX0_bySequences 23 = .ok (.getfield 15, 3) := by decide +kernel
theorem dX0_bySequences_26 : decode cX0_bySequences 26 = .ok (.if_icmp .ge 78, 3) := by decide +kernel
theorem dX0_bySequences_29 : decode cX0_bySequences 29 = .ok (.iload_n 2, 1) := by decide +kernel
theorem dX0_bySequences_30 : decode cX0_bySequences 30 = .ok (.iload 5, 2) := by decide +kernel
theorem dX0_bySequences_32 : decode cX0_bySequences 32 = .ok (.ishr, 1) := by decide +kernel
theorem dX0_bySequences_33 : decode cX0_bySequences 33 = .ok (.iconst 1, 1) := by decide +kernel
theorem dX0_bySequences_34 : decode cX0_bySequences 34 = .ok (.iand, 1) := by decide +kernel
theorem dX0_bySequences_35 : decode cX0_bySequences 35 = .ok (.ifCond .ne 63, 3) := by decide +kernel
theorem dX0_bySequences_38 : decode cX0_bySequences 38 = .ok (.aload_n 0, 1) := by decide +kernel
theorem dX0_bySequences_39 : decode cX0_bySequences 39 = .ok (.iload_n 1, 1) := by decide +kernel
theorem dX0_bySequences_40 : decode cX0_bySequences 40 = .ok (.iload 5, 2) := by decide +kernel
theorem dX0_bySequences_42 : decode cX0_bySequences 42 = .ok (.invokevirtual 24, 3) := by decide +kernel
theorem dX0_bySequences_45 : decode cX0_bySequences 45 = .ok (.aload_n 0, 1) := by decide +kernel
theorem dX0_bySequences_46 : decode cX0_bySequences 46 = .ok (.iload_n 1, 1) := by decide +kernel
theorem dX0_bySequences_47 : decode cX0_bySequences 47 = .ok (.iconst 1, 1) := by decide +kernel
theorem dX0_bySequences_48 : decode cX0_bySequences 48 = .ok (.iadd, 1) := by decide +kernel
theorem dX0_bySequences_49 : decode cX0_bySequences 49 = .ok (.iload_n 2, 1) := by decide +kernel
theorem dX0_bySequences_50 : decode cX0_bySequences 50 = .ok (.iconst 1, 1) := by decide +kernel
theorem dX0_bySequences_51 : decode cX0_bySequences 51 = .ok (.iload 5, 2) := by decide +kernel
theorem dX0_bySequences_53 : decode cX0_bySequences 53 = .ok (.ishl, 1) := by decide +kernel
theorem dX0_bySequences_54 : decode cX0_bySequences 54 = .ok (.ior, 1) := by decide +kernel
theorem dX0_bySequences_55 : decode cX0_bySequences 55 = .ok (.invokestatic 28, 3) := by decide +kernel
theorem dX0_bySequences_58 : decode cX0_bySequences 58 = .ok (.lmul, 1) := by decide +kernel
theorem dX0_bySequences_59 : decode cX0_bySequences 59 = .ok (.lstore 6, 2) := by decide +kernel
theorem dX0_bySequences_61 : decode cX0_bySequences 61 = .ok (.iload_n 2, 1) := by decide +kernel
theorem dX0_bySequences_62 : decode cX0_bySequences 62 = .ok (.iload 5, 2) := by decide +kernel
theorem dX0_bySequences_64 : decode cX0_bySequences 64 = .ok (.iconst 1, 1) := by decide +kernel
theorem dX0_bySequences_65 : decode cX0_bySequences 65 = .ok (.iadd, 1) := by decide +kernel
theorem dX0_bySequences_66 : decode cX0_bySequences 66 = .ok (.ishr, 1) := by decide +kernel
theorem dX0_bySequences_67 : decode cX0_bySequences 67 = .ok (.invokestatic 32, 3) := by decide +kernel
theorem dX0_bySequences_70 : decode cX0_bySequences 70 = .ok (.iconst 2, 1) := by decide +kernel
theorem dX0_bySequences_71 : decode cX0_bySequences 71 = .ok (.irem, 1) := by decide +kernel
theorem dX0_bySequences_72 : decode cX0_bySequences 72 = .ok (.ifCond .eq 7, 3) := by decide +kernel
theorem dX0_bySequences_75 : decode cX0_bySequences 75 = .ok (.iconst 1, 1) := by decide +kernel
theorem dX0_bySequences_76 : decode cX0_bySequences 76 = .ok (.goto 4, 3) := by decide +kernel
theorem dX0_bySequences_79 : decode cX0_bySequences 79 = .ok (.iconst 0, 1) := by decide +kernel
theorem dX0_bySequences_80 : decode cX0_bySequences 80 = .ok (.istore 8, 2) := by decide +kernel
theorem dX0_bySequences_82 : decode cX0_bySequences 82 = .ok (.lload_n 3, 1) := by decide +kernel
theorem dX0_bySequences_83 : decode cX0_bySequences 83 = .ok (.iload 8, 2) := by decide +kernel
theorem dX0_bySequences_85 : decode cX0_bySequences 85 = .ok (.ifCond .eq 9, 3) := by decide +kernel
theorem dX0_bySequences_88 : decode cX0_bySequences 88 = .ok (.lload 6, 2) := by decide +kernel
theorem dX0_bySequences_90 : decode cX0_bySequences 90 = .ok (.lneg, 1) := by decide +kernel
theorem dX0_bySequences_91 : decode cX0_bySequences 91 = .ok (.goto 5, 3) := by decide +kernel
theorem dX0_bySequences_94 : decode cX0_bySequences 94 = .ok (.lload 6, 2) := by decide +kernel
theorem dX0_bySequences_96 : decode cX0_bySequences 96 = .ok (.ladd, 1) := by decide +kernel
theorem dX0_bySequences_97 : decode cX0_bySequences 97 = .ok (.lstore_n 3, 1) := by decide +kernel
theorem dX0_bySequences_98 : decode cX0_bySequences 98 = .ok (.iinc 5 1, 3) := by decide +kernel
theorem dX0_bySequences_101 : decode cX0_bySequences 101 = .ok (.goto (-81), 3) := by decide +kernel
theorem dX0_bySequences_104 : decode cX0_bySequences 104 = .ok (.lload_n 3, 1) := by decide +kernel
theorem dX0_bySequences_105 : decode cX0_bySequences 105 = .ok (.lreturn, 1) := by decide +kernel
theorem dX0_findDivisor_0 : decode cX0_findDivisor 0 = .ok (.lconst 0, 1) := by decide +kernel
theorem dX0_findDivisor_1 : decode cX0_findDivisor 1 = .ok (.lstore_n 2, 1) := by decide +kernel
theorem dX0_findDivisor_2 : decode cX0_findDivisor 2 = .ok (.iconst 0, 1) := by decide +kernel
theorem dX0_findDivisor_3 : decode cX0_findDivisor 3 = .ok (.istore 4, 2) := by decide +kernel
theorem dX0_findDivisor_5 : decode cX0_findDivisor 5 = .ok (.iload 4, 2) := by decide +kernel
theorem dX0_findDivisor_7 : decode cX0_findDivisor 7 = .ok (.iconst 1, 1) := by decide +kernel
theorem dX0_findDivisor_8 : decode cX0_findDivisor 8 = .ok (.aload_n 0, 1) := by decide +kernel
theorem dX0_findDivisor_9 : decode cX0_findDivisor 9 = .ok (.getfield 9, 3) := by decide +kernel
theorem dX0_findDivisor_12 : decode cX0_findDivisor 12 = .ok (.ishl, 1) := by decide +kernel
theorem dX0_findDivisor_13 : decode cX0_findDivisor 13 = .ok (.if_icmp .ge 73, 3) := by decide +kernel
theorem dX0_findDivisor_16 : decode cX0_findDivisor 16 = .ok (.iload 4, 2) := by decide +kernel
theorem dX0_findDivisor_18 : decode cX0_findDivisor 18 = .ok (.invokestatic 32, 3) := by decide +kernel
theorem dX0_findDivisor_21 : decode cX0_findDivisor 21 = .ok (.iload_n 1, 1) := by decide +kernel
theorem dX0_findDivisor_22 : decode cX0_findDivisor 22 = .ok (.if_icmp .ne 7, 3) := by decide +kernel
theorem dX0_findDivisor_25 : decode cX0_findDivisor 25 = .ok (.iconst 1, 1) := by decide +kernel
theorem dX0_findDivisor_26 : decode cX0_findDivisor 26 = .ok (.goto 4, 3) := by decide +kernel
theorem dX0_findDivisor_29 : decode cX0_findDivisor 29 = .ok (.iconst 0, 1) := by decide +kernel
theorem dX0_findDivisor_30 : decode cX0_findDivisor 30 = .ok (.istore 5, 2) := by decide +kernel
theorem dX0_findDivisor_32 : decode cX0_findDivisor 32 = .ok (.iconst 0, 1) := by decide +kernel
theorem dX0_findDivisor_33 : decode cX0_findDivisor 33 = .ok (.istore 6, 2) := by decide +kernel
theorem dX0_findDivisor_35 : decode cX0_findDivisor 35 = .ok (.iload 5, 2) := by decide +kernel
theorem dX0_findDivisor_37 : decode cX0_findDivisor 37 = .ok (.ifCond .eq 43, 3) := by decide +kernel
theorem dX0_findDivisor_40 : decode cX0_findDivisor 40 = .ok (.iload 6, 2) := by decide +kernel
theorem dX0_findDivisor_42 : decode cX0_findDivisor 42 = .ok (.iconst 1, 1) := by decide +kernel
theorem dX0_findDivisor_43 : decode cX0_findDivisor 43 = .ok (.aload_n 0, 1) := by decide +kernel
theorem dX0_findDivisor_44 : decode cX0_findDivisor 44 = .ok (.getfield 15, 3) := by decide +kernel
theorem dX0_findDivisor_47 : decode cX0_findDivisor 47 = .ok (.ishl, 1) := by decide +kernel
theorem dX0_findDivisor_48 : decode cX0_findDivisor 48 = .ok (.if_icmp .ge 32, 3) := by decide +kernel
theorem dX0_findDivisor_51 : decode cX0_findDivisor 51 = .ok (.iload 6, 2) := by decide +kernel
theorem dX0_findDivisor_53 : decode cX0_findDivisor 53 = .ok (.invokestatic 32, 3) := by decide +kernel
theorem dX0_findDivisor_56 : decode cX0_findDivisor 56 = .ok (.iload_n 1, 1) := by decide +kernel
theorem dX0_findDivisor_57 : decode cX0_findDivisor 57 = .ok (.if_icmp .ne 17, 3) := by decide +kernel
theorem dX0_findDivisor_60 : decode cX0_findDivisor 60 = .ok (.lload_n 2, 1) := by decide +kernel
theorem dX0_findDivisor_61 : decode cX0_findDivisor 61 = .ok (.aload_n 0, 1) := by decide +kernel
theorem dX0_findDivisor_62 : decode cX0_findDivisor 62 = .ok (.iload 4, 2) := by decide +kernel
theorem dX0_findDivisor_64 : decode cX0_findDivisor 64 = .ok (.iload 6, 2) := by decide +kernel
theorem dX0_findDivisor_66 : decode cX0_findDivisor 66 = .ok (.iconst 0, 1) := by decide +kernel
theorem dX0_findDivisor_67 : decode cX0_findDivisor 67 = .ok (.invokestatic 18, 3) := by decide +kernel
theorem dX0_findDivisor_70 : decode cX0_findDivisor 70 = .ok (.invokestatic 38, 3) := by decide +kernel
theorem dX0_findDivisor_73 : decode cX0_findDivisor 73 = .ok (.lstore_n 2, 1) := by decide +kernel
theorem dX0_findDivisor_74 : decode cX0_findDivisor 74 = .ok (.iinc 6 1, 3) := by decide +kernel
theorem dX0_findDivisor_77 : decode cX0_findDivisor 77 = .ok (.goto (-42), 3) := by decide +kernel
theorem dX0_findDivisor_80 : decode cX0_findDivisor 80 = .ok (.iinc 4 1, 3) := by decide +kernel
theorem dX0_findDivisor_83 : decode cX0_findDivisor 83 = .ok (.goto (-78), 3) := by decide +kernel
theorem dX0_findDivisor_86 : decode cX0_findDivisor 86 = .ok (.lload_n 2, 1) := by decide +kernel
theorem dX0_findDivisor_87 : decode cX0_findDivisor 87 = .ok (.lreturn, 1) := by decide +kernel
theorem dX0_findRank_0 : decode cX0_findRank 0 = .ok (.iconst 0, 1) := by decide +kernel
theorem dX0_findRank_1 : decode cX0_findRank 1 = .ok (.istore_n 1, 1) := by decide +kernel
theorem dX0_findRank_2 : decode cX0_findRank 2 = .ok (.iconst 1, 1) := by decide +kernel
theorem dX0_findRank_3 : decode cX0_findRank 3 = .ok (.istore_n 2, 1) := by decide +kernel
theorem dX0_findRank_4 : decode cX0_findRank 4 = .ok (.iload_n 2, 1) := by decide +kernel
theorem dX0_findRank_5 : decode cX0_findRank 5 = .ok (.aload_n 0, 1) := by decide +kernel
theorem dX0_findRank_6 : decode cX0_findRank 6 = .ok (.getfield 9, 3) := by decide +kernel
theorem dX0_findRank_9 : decode cX0_findRank 9 = .ok (.if_icmp .gt 29, 3) := by decide +kernel
theorem dX0_findRank_12 : decode cX0_findRank 12 = .ok (.iload_n 2, 1) := by decide +kernel
theorem dX0_findRank_13 : decode cX0_findRank 13 = .ok (.aload_n 0, 1) := by decide +kernel
theorem dX0_findRank_14 : decode cX0_findRank 14 = .ok (.getfield 15, 3) := by decide +kernel
theorem dX0_findRank_17 : decode cX0_findRank 17 = .ok (.if_icmp .gt 21, 3) := by decide +kernel
theorem dX0_findRank_20 : decode cX0_findRank 20 = .ok (.aload_n 0, 1) := by decide +kernel
theorem dX0_findRank_21 : decode cX0_findRank 21 = .ok (.iload_n 2, 1) := by decide +kernel
theorem dX0_findRank_22 : decode cX0_findRank 22 = .ok (.invokestatic 42, 3) := by decide +kernel
theorem dX0_findRank_25 : decode cX0_findRank 25 = .ok (.lconst 0, 1) := by decide +kernel
theorem dX0_findRank_26 : decode cX0_findRank 26 = .ok (.lcmp, 1) := by decide +kernel
theorem dX0_findRank_27 : decode cX0_findRank 27 = .ok (.ifCond .eq 5, 3) := by decide +kernel
theorem dX0_findRank_30 : decode cX0_findRank 30 = .ok (.iload_n 2, 1) := by decide +kernel
theorem dX0_findRank_31 : decode cX0_findRank 31 = .ok (.istore_n 1, 1) := by decide +kernel
theorem dX0_findRank_32 : decode cX0_findRank 32 = .ok (.iinc 2 1, 3) := by decide +kernel
theorem dX0_findRank_35 : decode cX0_findRank 35 = .ok (.goto (-31), 3) := by decide +kernel
theorem dX0_findRank_38 : decode cX0_findRank 38 = .ok (.iload_n 1, 1) := by decide +kernel
theorem dX0_findRank_39 : decode cX0_findRank 39 = .ok (.ireturn, 1) := by decide +kernel
theorem dX1_init_0 : decode cX1_init 0 = .ok (.aload_n 0, 1) := by decide +kernel
theorem dX1_init_1 : decode cX1_init 1 = .ok (.invokespecial 3, 3) := by decide +kernel
theorem dX1_init_4 : decode cX1_init 4 = .ok (.aload_n 0, 1) := by decide +kernel
theorem dX1_init_5 : decode cX1_init 5 = .ok (.new 9, 3) := by decide +kernel
theorem dX1_init_8 : decode cX1_init 8 = .ok (.dup, 1) := by decide +kernel
theorem dX1_init_9 : decode cX1_init 9 = .ok (.invokespecial 11, 3) := by decide +kernel
theorem dX1_init_12 : decode cX1_init 12 = .ok (.putfield 12, 3) := by decide +kernel
theorem dX1_init_15 : decode cX1_init 15 = .ok (.aload_n 0, 1) := by decide +kernel
theorem dX1_init_16 : decode cX1_init 16 = .ok (.new 9, 3) := by decide +kernel
theorem dX1_init_19 : decode cX1_init 19 = .ok (.dup, 1) := by decide +kernel
theorem dX1_init_20 : decode cX1_init 20 = .ok (.invokespecial 11, 3) := by decide +kernel
theorem dX1_init_23 : decode cX1_init 23 = .ok (.putfield 18, 3) := by decide +kernel
theorem dX1_init_26 : decode cX1_init 26 = .ok (.aload_n 0, 1) := by decide +kernel
theorem dX1_init_27 : decode cX1_init 27 = .ok (.new 9, 3) := by decide +kernel
theorem dX1_init_30 : decode cX1_init 30 = .ok (.dup, 1) := by decide +kernel
theorem dX1_init_31 : decode cX1_init 31 = .ok (.invokespecial 11, 3) := by decide +kernel
theorem dX1_init_34 : decode cX1_init 34 = .ok (.putfield 21, 3) := by decide +kernel
theorem dX1_init_37 : decode cX1_init 37 = .ok (.return_, 1) := by decide +kernel
theorem dX1_walk_0 : decode cX1_walk 0 = .ok (.aload_n 0, 1) := by decide +kernel
theorem dX1_walk_1 : decode cX1_walk 1 = .ok (.getfield 12, 3) := by decide +kernel
theorem dX1_walk_4 : decode cX1_walk 4 = .ok (.aload_n 1, 1) := by decide +kernel
theorem dX1_walk_5 : decode cX1_walk 5 = .ok (.invokevirtual 24, 3) := by decide +kernel
theorem dX1_walk_8 : decode cX1_walk 8 = .ok (.aload_n 0, 1) := by decide +kernel
theorem dX1_walk_9 : decode cX1_walk 9 = .ok (.getfield 18, 3) := by decide +kernel
theorem dX1_walk_12 : decode cX1_walk 12 = .ok (.aload_n 1, 1) := by decide +kernel
theorem dX1_walk_13 : decode cX1_walk 13 = .ok (.getfield 28, 3) := by decide +kernel
theorem dX1_walk_16 : decode cX1_walk 16 = .ok (.invokevirtual 32, 3) := by decide +kernel
theorem dX1_walk_19 : decode cX1_walk 19 = .ok (.aload_n 0, 1) := by decide +kernel
theorem dX1_walk_20 : decode cX1_walk 20 = .ok (.getfield 21, 3) := by decide +kernel
theorem dX1_walk_23 : decode cX1_walk 23 = .ok (.aload_n 1, 1) := by decide +kernel
theorem dX1_walk_24 : decode cX1_walk 24 = .ok (.getfield 36, 3) := by decide +kernel
theorem dX1_walk_27 : decode cX1_walk 27 = .ok (.invokevirtual 32, 3) := by decide +kernel
theorem dX1_walk_30 : decode cX1_walk 30 = .ok (.aload_n 0, 1) := by decide +kernel
theorem dX1_walk_31 : decode cX1_walk 31 = .ok (.iconst 0, 1) := by decide +kernel
theorem dX1_walk_32 : decode cX1_walk 32 = .ok (.putfield 39, 3) := by decide +kernel
theorem dX1_walk_35 : decode cX1_walk 35 = .ok (.iconst 1, 1) := by decide +kernel
theorem dX1_walk_36 : decode cX1_walk 36 = .ok (.istore_n 2, 1) := by decide +kernel
theorem dX1_walk_37 : decode cX1_walk 37 = .ok (.iconst 0, 1) := by decide +kernel
theorem dX1_walk_38 : decode cX1_walk 38 = .ok (.istore_n 3, 1) := by decide +kernel
theorem dX1_walk_39 : decode cX1_walk 39 = .ok (.iload_n 3, 1) := by decide +kernel
theorem dX1_walk_40 : decode cX1_walk 40 = .ok (.aload_n 0, 1) := by decide +kernel
theorem dX1_walk_41 : decode cX1_walk 41 = .ok (.getfield 12, 3) := by decide +kernel
theorem dX1_walk_44 : decode cX1_walk 44 = .ok (.getfield 28, 3) := by decide +kernel
theorem dX1_walk_47 : decode cX1_walk 47 = .ok (.if_icmp .ge 37, 3) := by decide +kernel
theorem dX1_walk_50 : decode cX1_walk 50 = .ok (.iload_n 3, 1) := by decide +kernel
theorem dX1_walk_51 : decode cX1_walk 51 = .ok (.aload_n 0, 1) := by decide +kernel
theorem dX1_walk_52 : decode cX1_walk 52 = .ok (.getfield 12, 3) := by decide +kernel
theorem dX1_walk_55 : decode cX1_walk 55 = .ok (.getfield 36, 3) := by decide +kernel
theorem dX1_walk_58 : decode cX1_walk 58 = .ok (.if_icmp .ge 26, 3) := by decide +kernel
theorem dX1_walk_61 : decode cX1_walk 61 = .ok (.iload_n 2, 1) := by decide +kernel
theorem dX1_walk_62 : decode cX1_walk 62 = .ok (.ifCond .eq 22, 3) := by decide +kernel
theorem dX1_walk_65 : decode cX1_walk 65 = .ok (.aload_n 0, 1) := by decide +kernel
theorem dX1_walk_66 : decode cX1_walk 66 = .ok (.getfield 39, 3) := by decide +kernel
theorem dX1_walk_69 : decode cX1_walk 69 = .ok (.ifCond .ne 15, 3) := by decide +kernel
theorem dX1_walk_72 : decode cX1_walk 72 = .ok (.aload_n 0, 1) := by decide +kernel
theorem dX1_walk_73 : decode cX1_walk 73 = .ok (.iload_n 3, 1) := by decide +kernel
theorem dX1_walk_74 : decode cX1_walk 74 = .ok (.invokevirtual 43, 3) := by decide +kernel
theorem dX1_walk_77 : decode cX1_walk 77 = .ok (.istore_n 2, 1) := by decide +kernel
theorem dX1_walk_78 : decode cX1_walk 78 = .ok (.iinc 3 1, 3) := by decide +kernel
theorem dX1_walk_81 : decode cX1_walk 81 = .ok (.goto (-42), 3) := by decide +kernel
theorem dX1_walk_84 : decode cX1_walk 84 = .ok (.return_, 1) := by decide +kernel
theorem dX1_clearCross_0 : decode cX1_clearCross 0 = .ok (.iconst 0, 1) := by decide +kernel
theorem dX1_clearCross_1 : decode cX1_clearCross 1 = .ok (.istore_n 2, 1) := by decide +kernel
theorem dX1_clearCross_2 : decode cX1_clearCross 2 = .ok (.iload_n 2, 1) := by decide +kernel
theorem dX1_clearCross_3 : decode cX1_clearCross 3 = .ok (.ldc 47, 2) := by decide +kernel
theorem dX1_clearCross_5 : decode cX1_clearCross 5 = .ok (.if_icmp .ge 196, 3) := by decide +kernel
theorem dX1_clearCross_8 : decode cX1_clearCross 8 = .ok (.aload_n 0, 1) := by decide +kernel
theorem dX1_clearCross_9 : decode cX1_clearCross 9 = .ok (.getfield 39, 3) := by decide +kernel
theorem dX1_clearCross_12 : decode cX1_clearCross 12 = .ok (.ifCond .ne 189, 3) := by decide +kernel
theorem dX1_clearCross_15 : decode cX1_clearCross 15 = .ok (.aload_n 0, 1) := by decide +kernel
theorem dX1_clearCross_16 : decode cX1_clearCross 16 = .ok (.iload_n 1, 1) := by decide +kernel
theorem dX1_clearCross_17 : decode cX1_clearCross 17 = .ok (.invokevirtual 48, 3) := by decide +kernel
theorem dX1_clearCross_20 : decode cX1_clearCross 20 = .ok (.istore_n 3, 1) := by decide +kernel
theorem dX1_clearCross_21 : decode cX1_clearCross 21 = .ok (.iload_n 3, 1) := by decide +kernel
theorem dX1_clearCross_22 : decode cX1_clearCross 22 = .ok (.ifCond .ge 5, 3) := by decide +kernel
theorem dX1_clearCross_25 : decode cX1_clearCross 25 = .ok (.iconst 0, 1) := by decide +kernel
theorem dX1_clearCross_26 : decode cX1_clearCross 26 = .ok (.ireturn, 1) := by decide +kernel
theorem dX1_clearCross_27 : decode cX1_clearCross 27 = .ok (.aload_n 0, 1) := by decide +kernel
theorem dX1_clearCross_28 : decode cX1_clearCross 28 = .ok (.iload_n 3, 1) := by decide +kernel
theorem dX1_clearCross_29 : decode cX1_clearCross 29 = .ok (.iconst 5, 1) := by decide +kernel
theorem dX1_clearCross_30 : decode cX1_clearCross 30 = .ok (.idiv, 1) := by decide +kernel
theorem dX1_clearCross_31 : decode cX1_clearCross 31 = .ok (.iload_n 3, 1) := by decide +kernel
theorem dX1_clearCross_32 : decode cX1_clearCross 32 = .ok (.iconst 5, 1) := by decide +kernel
theorem dX1_clearCross_33 : decode cX1_clearCross 33 = .ok (.irem, 1) := by decide +kernel
theorem dX1_clearCross_34 : decode cX1_clearCross 34 = .ok (.iload_n 1, 1) := by decide +kernel
theorem dX1_clearCross_35 : decode cX1_clearCross 35 = .ok (.invokevirtual 52, 3) := by decide +kernel
theorem dX1_clearCross_38 : decode cX1_clearCross 38 = .ok (.iload_n 1, 1) := by decide +kernel
theorem dX1_clearCross_39 : decode cX1_clearCross 39 = .ok (.iconst 1, 1) := by decide +kernel
theorem dX1_clearCross_40 : decode cX1_clearCross 40 = .ok (.iadd, 1) := by decide +kernel
theorem dX1_clearCross_41 : decode cX1_clearCross 41 = .ok (.istore 4, 2) := by decide +kernel
theorem dX1_clearCross_43 : decode cX1_clearCross 43 = .ok (.iload 4, 2) := by decide +kernel
theorem dX1_clearCross_45 : decode cX1_clearCross 45 = .ok (.aload_n 0, 1) := by decide +kernel
theorem dX1_clearCross_46 : decode cX1_clearCross 46 = .ok (.getfield 12, 3) := by decide +kernel
theorem dX1_clearCross_49 : decode cX1_clearCross 49 = .ok (.getfield 28, 3) := by decide +kernel
theorem dX1_clearCross_52 : decode cX1_clearCross 52 = .ok (.if_icmp .ge 46, 3) := by decide +kernel
theorem dX1_clearCross_55 : decode cX1_clearCross 55 = .ok (.aload_n 0, 1) := by decide +kernel
theorem dX1_clearCross_56 : decode cX1_clearCross 56 = .ok (.getfield 39, 3) := by decide +kernel
theorem dX1_clearCross_59 : decode cX1_clearCross 59 = .ok (.ifCond .ne 39, 3) := by decide +kernel
theorem dX1_clearCross_62 : decode cX1_clearCross 62 = .ok (.aload_n 0, 1) := by decide +kernel
theorem dX1_clearCross_63 : decode cX1_clearCross 63 = .ok (.iload 4, 2) := by decide +kernel
theorem dX1_clearCross_65 : decode cX1_clearCross 65 = .ok (.iload_n 1, 1) := by decide +kernel
theorem dX1_clearCross_66 : decode cX1_clearCross 66 = .ok (.aload_n 0, 1) := by decide +kernel
theorem dX1_clearCross_67 : decode cX1_clearCross 67 = .ok (.getfield 12, 3) := by decide +kernel
theorem dX1_clearCross_70 : decode cX1_clearCross 70 = .ok (.iload 4, 2) := by decide +kernel
theorem dX1_clearCross_72 : decode cX1_clearCross 72 = .ok (.iload_n 1, 1) := by decide +kernel
theorem dX1_clearCross_73 : decode cX1_clearCross 73 = .ok (.invokevirtual 56, 3) := by decide +kernel
theorem dX1_clearCross_76 : decode cX1_clearCross 76 = .ok (.aload_n 0, 1) := by decide +kernel
theorem dX1_clearCross_77 : decode cX1_clearCross 77 = .ok (.getfield 12, 3) := by decide +kernel
theorem dX1_clearCross_80 : decode cX1_clearCross 80 = .ok (.iload_n 1, 1) := by decide +kernel
theorem dX1_clearCross_81 : decode cX1_clearCross 81 = .ok (.iload_n 1, 1) := by decide +kernel
theorem dX1_clearCross_82 : decode cX1_clearCross 82 = .ok (.invokevirtual 56, 3) := by decide +kernel
theorem dX1_clearCross_85 : decode cX1_clearCross 85 = .ok (.invokestatic 60, 3) := by decide +kernel
theorem dX1_clearCross_88 : decode cX1_clearCross 88 = .ok (.lneg, 1) := by decide +kernel
theorem dX1_clearCross_89 : decode cX1_clearCross 89 = .ok (.invokevirtual 64, 3) := by decide +kernel
theorem dX1_clearCross_92 : decode cX1_clearCross 92 = .ok (.iinc 4 1, 3) := by decide +kernel
theorem dX1_clearCross_95 : decode cX1_clearCross 95 = .ok (.goto (-52), 3) := by decide +kernel
theorem dX1_clearCross_98 : decode cX1_clearCross 98 = .ok (.iload_n 1, 1) := by decide +kernel
theorem dX1_clearCross_99 : decode cX1_clearCross 99 = .ok (.iconst 1, 1) := by decide +kernel
theorem dX1_clearCross_100 : decode cX1_clearCross 100 = .ok (.iadd, 1) := by decide +kernel
theorem dX1_clearCross_101 : decode cX1_clearCross 101 = .ok (.istore 4, 2) := by decide +kernel
theorem dX1_clearCross_103 : decode cX1_clearCross 103 = .ok (.iload 4, 2) := by decide +kernel
theorem dX1_clearCross_105 : decode cX1_clearCross 105 = .ok (.aload_n 0, 1) := by decide +kernel
theorem dX1_clearCross_106 : decode cX1_clearCross 106 = .ok (.getfield 12, 3) := by decide +kernel
theorem dX1_clearCross_109 : decode cX1_clearCross 109 = .ok (.getfield 36, 3) := by decide +kernel
theorem dX1_clearCross_112 : decode cX1_clearCross 112 = .ok (.if_icmp .ge 46, 3) := by decide +kernel
theorem dX1_clearCross_115 : decode cX1_clearCross 115 = .ok (.aload_n 0, 1) := by decide +kernel
theorem dX1_clearCross_116 : decode cX1_clearCross 116 = .ok (.getfield 39, 3) := by decide +kernel
theorem dX1_clearCross_119 : decode cX1_clearCross 119 = .ok (.ifCond .ne 39, 3) := by decide +kernel
theorem dX1_clearCross_122 : decode cX1_clearCross 122 = .ok (.aload_n 0, 1) := by decide +kernel
theorem dX1_clearCross_123 : decode cX1_clearCross 123 = .ok (.iload 4, 2) := by decide +kernel
theorem dX1_clearCross_125 : decode cX1_clearCross 125 = .ok (.iload_n 1, 1) := by decide +kernel
theorem dX1_clearCross_126 : decode cX1_clearCross 126 = .ok (.aload_n 0, 1) := by decide +kernel
theorem dX1_clearCross_127 : decode cX1_clearCross 127 = .ok (.getfield 12, 3) := by decide +kernel
theorem dX1_clearCross_130 : decode cX1_clearCross 130 = .ok (.iload_n 1, 1) := by decide +kernel
theorem dX1_clearCross_131 : decode cX1_clearCross 131 = .ok (.iload 4, 2) := by decide +kernel
theorem dX1_clearCross_133 : decode cX1_clearCross 133 = .ok (.invokevirtual 56, 3) := by decide +kernel
theorem dX1_clearCross_136 : decode cX1_clearCross 136 = .ok (.aload_n 0, 1) := by decide +kernel
theorem dX1_clearCross_137 : decode cX1_clearCross 137 = .ok (.getfield 12, 3) := by decide +kernel
theorem dX1_clearCross_140 : decode cX1_clearCross 140 = .ok (.iload_n 1, 1) := by decide +kernel
theorem dX1_clearCross_141 : decode cX1_clearCross 141 = .ok (.iload_n 1, 1) := by decide +kernel
theorem dX1_clearCross_142 : decode cX1_clearCross 142 = .ok (.invokevirtual 56, 3) := by decide +kernel
theorem dX1_clearCross_145 : decode cX1_clearCross 145 = .ok (.invokestatic 60, 3) := by decide +kernel
theorem dX1_clearCross_148 : decode cX1_clearCross 148 = .ok (.lneg, 1) := by decide +kernel
theorem dX1_clearCross_149 : decode cX1_clearCross 149 = .ok (.invokevirtual 68, 3) := by decide +kernel
theorem dX1_clearCross_152 : decode cX1_clearCross 152 = .ok (.iinc 4 1, 3) := by decide +kernel
theorem dX1_clearCross_155 : decode cX1_clearCross 155 = .ok (.goto (-52), 3) := by decide +kernel
theorem dX1_clearCross_158 : decode cX1_clearCross 158 = .ok (.aload_n 0, 1) := by decide +kernel
theorem dX1_clearCross_159 : decode cX1_clearCross 159 = .ok (.getfield 39, 3) := by decide +kernel
theorem dX1_clearCross_162 : decode cX1_clearCross 162 = .ok (.ifCond .ne 33, 3) := by decide +kernel
theorem dX1_clearCross_165 : decode cX1_clearCross 165 = .ok (.aload_n 0, 1) := by decide +kernel
theorem dX1_clearCross_166 : decode cX1_clearCross 166 = .ok (.iload_n 1, 1) := by decide +kernel
theorem dX1_clearCross_167 : decode cX1_clearCross 167 = .ok (.invokevirtual 71, 3) := by decide +kernel
theorem dX1_clearCross_170 : decode cX1_clearCross 170 = .ok (.ifCond .eq 25, 3) := by decide +kernel
theorem dX1_clearCross_173 : decode cX1_clearCross 173 = .ok (.aload_n 0, 1) := by decide +kernel
theorem dX1_clearCross_174 : decode cX1_clearCross 174 = .ok (.iload_n 1, 1) := by decide +kernel
theorem dX1_clearCross_175 : decode cX1_clearCross 175 = .ok (.invokevirtual 74, 3) := by decide +kernel
theorem dX1_clearCross_178 : decode cX1_clearCross 178 = .ok (.istore 4, 2) := by decide +kernel
theorem dX1_clearCross_180 : decode cX1_clearCross 180 = .ok (.iload 4, 2) := by decide +kernel
theorem dX1_clearCross_182 : decode cX1_clearCross 182 = .ok (.ifCond .ge 5, 3) := by decide +kernel
theorem dX1_clearCross_185 : decode cX1_clearCross 185 = .ok (.iconst 1, 1) := by decide +kernel
theorem dX1_clearCross_186 : decode cX1_clearCross 186 = .ok (.ireturn, 1) := by decide +kernel
theorem dX1_clearCross_187 : decode cX1_clearCross 187 = .ok (.aload_n 0, 1) := by decide +kernel
theorem dX1_clearCross_188 : decode cX1_clearCross 188 = .ok (.iload_n 1, 1) := by decide +kernel
theorem dX1_clearCross_189 : decode cX1_clearCross 189 = .ok (.iload 4, 2) := by decide +kernel
theorem dX1_clearCross_191 : decode cX1_clearCross 191 = .ok (.lconst 1, 1) := by decide +kernel
theorem dX1_clearCross_192 : decode cX1_clearCross 192 = .ok (.invokevirtual 64, 3) := by decide +kernel
theorem dX1_clearCross_195 : decode cX1_clearCross 195 = .ok (.iinc 2 1, 3) := by decide +kernel
theorem dX1_clearCross_198 : decode cX1_clearCross 198 = .ok (.goto (-196), 3) := by decide +kernel
theorem dX1_clearCross_201 : decode cX1_clearCross 201 = .ok (.iconst 0, 1) := by decide +kernel
theorem dX1_clearCross_202 : decode cX1_clearCross 202 = .ok (.ireturn, 1) := by decide +kernel
theorem dX1_findLeastPlace_0 : decode cX1_findLeastPlace 0 = .ok (.iconst (-1), 1) := by decide +kernel
theorem dX1_findLeastPlace_1 : decode cX1_findLeastPlace 1 = .ok (.istore_n 2, 1) := by decide +kernel
theorem dX1_findLeastPlace_2 : decode cX1_findLeastPlace 2 = .ok (.lconst 0, 1) := by decide +kernel
theorem dX1_findLeastPlace_3 : decode cX1_findLeastPlace 3 = .ok (.lstore_n 3, 1) := by decide +kernel
theorem dX1_findLeastPlace_4 : decode cX1_findLeastPlace 4 = .ok (.iload_n 1, 1) := by decide +kernel
theorem dX1_findLeastPlace_5 : decode cX1_findLeastPlace 5 = .ok (.istore 5, 2) := by decide +kernel
theorem dX1_findLeastPlace_7 : decode cX1_findLeastPlace 7 = .ok (.iload 5, 2) := by decide +kernel
theorem dX1_findLeastPlace_9 : decode cX1_findLeastPlace 9 = .ok (.aload_n 0, 1) := by decide +kernel
theorem dX1_findLeastPlace_10 : decode cX1_findLeastPlace 10 = .ok (.getfield 12, 3) := by decide +kernel
theorem dX1_findLeastPlace_13 : decode cX1_findLeastPlace 13 = .ok (.getfield 28, 3) := by decide +kernel
theorem dX1_findLeastPlace_16 : decode cX1_findLeastPlace 16 = .ok (.if_icmp .ge 75, 3) := by decide +kernel
theorem dX1_findLeastPlace_19 : decode cX1_findLeastPlace 19 = .ok (.iload_n 1, 1) := by decide +kernel
theorem dX1_findLeastPlace_20 : decode cX1_findLeastPlace 20 = .ok (.istore 6, 2) := by decide +kernel
theorem dX1_findLeastPlace_22 : decode cX1_findLeastPlace 22 = .ok (.iload 6, 2) := by decide +kernel
theorem dX1_findLeastPlace_24 : decode cX1_findLeastPlace 24 = .ok (.aload_n 0, 1) := by decide +kernel
theorem dX1_findLeastPlace_25 : decode cX1_findLeastPlace 25 = .ok (.getfield 12, 3) := by decide +kernel
theorem dX1_findLeastPlace_28 : decode cX1_findLeastPlace 28 = .ok (.getfield 36, 3) := by decide +kernel
theorem dX1_findLeastPlace_31 : decode cX1_findLeastPlace 31 = .ok (.if_icmp .ge 54, 3) := by decide +kernel
theorem dX1_findLeastPlace_34 : decode cX1_findLeastPlace 34 = .ok (.aload_n 0, 1) := by decide +kernel
theorem dX1_findLeastPlace_35 : decode cX1_findLeastPlace 35 = .ok (.getfield 12, 3) := by decide +kernel
theorem dX1_findLeastPlace_38 : decode cX1_findLeastPlace 38 = .ok (.iload 5, 2) := by decide +kernel
theorem dX1_findLeastPlace_40 : decode cX1_findLeastPlace 40 = .ok (.iload 6, 2) := by decide +kernel
theorem dX1_findLeastPlace_42 : decode cX1_findLeastPlace 42 = .ok (.invokevirtual 56, 3) := by decide +kernel
theorem dX1_findLeastPlace_45 : decode cX1_findLeastPlace 45 = .ok (.invokestatic 77, 3) := by decide +kernel
theorem dX1_findLeastPlace_48 : decode cX1_findLeastPlace 48 = .ok (.lstore 7, 2) := by decide +kernel
theorem dX1_findLeastPlace_50 : decode cX1_findLeastPlace 50 = .ok (.lload 7, 2) := by decide +kernel
theorem dX1_findLeastPlace_52 : decode cX1_findLeastPlace 52 = .ok (.lconst 0, 1) := by decide +kernel
theorem dX1_findLeastPlace_53 : decode cX1_findLeastPlace 53 = .ok (.lcmp, 1) := by decide +kernel
theorem dX1_findLeastPlace_54 : decode cX1_findLeastPlace 54 = .ok (.ifCond .eq 25, 3) := by decide +kernel
theorem dX1_findLeastPlace_57 : decode cX1_findLeastPlace 57 = .ok (.iload_n 2, 1) := by decide +kernel
theorem dX1_findLeastPlace_58 : decode cX1_findLeastPlace 58 = .ok (.ifCond .lt 10, 3) := by decide +kernel
theorem dX1_findLeastPlace_61 : decode cX1_findLeastPlace 61 = .ok (.lload 7, 2) := by decide +kernel
theorem dX1_findLeastPlace_63 : decode cX1_findLeastPlace 63 = .ok (.lload_n 3, 1) := by decide +kernel
theorem dX1_findLeastPlace_64 : decode cX1_findLeastPlace 64 = .ok (.lcmp, 1) := by decide +kernel
theorem dX1_findLeastPlace_65 : decode cX1_findLeastPlace 65 = .ok (.ifCond .ge 14, 3) := by decide +kernel
theorem dX1_findLeastPlace_68 : decode cX1_findLeastPlace 68 = .ok (.iload 5, 2) := by decide +kernel
theorem dX1_findLeastPlace_70 : decode cX1_findLeastPlace 70 = .ok (.iconst 5, 1) := by decide +kernel
theorem dX1_findLeastPlace_71 : decode cX1_findLeastPlace 71 = .ok (.imul, 1) := by decide +kernel
theorem dX1_findLeastPlace_72 : decode cX1_findLeastPlace 72 = .ok (.iload 6, 2) := by decide +kernel
theorem dX1_findLeastPlace_74 : decode cX1_findLeastPlace 74 = .ok (.iadd, 1) := by decide +kernel
theorem dX1_findLeastPlace_75 : decode cX1_findLeastPlace 75 = .ok (.istore_n 2, 1) := by decide +kernel
theorem dX1_findLeastPlace_76 : decode cX1_findLeastPlace 76 = .ok (.lload 7, 2) := by decide +kernel
theorem dX1_findLeastPlace_78 : decode cX1_findLeastPlace 78 = .ok (.lstore_n 3, 1) := by decide +kernel
theorem dX1_findLeastPlace_79 : decode cX1_findLeastPlace 79 = .ok (.iinc 6 1, 3) := by decide +kernel
theorem dX1_findLeastPlace_82 : decode cX1_findLeastPlace 82 = .ok (.goto (-60), 3) := by decide +kernel
theorem dX1_findLeastPlace_85 : decode cX1_findLeastPlace 85 = .ok (.iinc 5 1, 3) := by decide +kernel
theorem dX1_findLeastPlace_88 : decode cX1_findLeastPlace 88 = .ok (.goto (-81), 3) := by decide +kernel
theorem dX1_findLeastPlace_91 : decode cX1_findLeastPlace 91 = .ok (.iload_n 2, 1) := by decide +kernel
theorem dX1_findLeastPlace_92 : decode cX1_findLeastPlace 92 = .ok (.ireturn, 1) := by decide +kernel
theorem dX1_bring_0 : decode cX1_bring 0 = .ok (.iload_n 1, 1) := by decide +kernel
theorem dX1_bring_1 : decode cX1_bring 1 = .ok (.iload_n 3, 1) := by decide +kernel
theorem dX1_bring_2 : decode cX1_bring 2 = .ok (.if_icmp .eq 23, 3) := by decide +kernel
theorem dX1_bring_5 : decode cX1_bring 5 = .ok (.aload_n 0, 1) := by decide +kernel
theorem dX1_bring_6 : decode cX1_bring 6 = .ok (.getfield 12, 3) := by decide +kernel
theorem dX1_bring_9 : decode cX1_bring 9 = .ok (.iconst 0, 1) := by decide +kernel
theorem dX1_bring_10 : decode cX1_bring 10 = .ok (.iload_n 1, 1) := by decide +kernel
theorem dX1_bring_11 : decode cX1_bring 11 = .ok (.iload_n 3, 1) := by decide +kernel
theorem dX1_bring_12 : decode cX1_bring 12 = .ok (.invokevirtual 83, 3) := by decide +kernel
theorem dX1_bring_15 : decode cX1_bring 15 = .ok (.aload_n 0, 1) := by decide +kernel
theorem dX1_bring_16 : decode cX1_bring 16 = .ok (.getfield 18, 3) := by decide +kernel
theorem dX1_bring_19 : decode cX1_bring 19 = .ok (.iconst 0, 1) := by decide +kernel
theorem dX1_bring_20 : decode cX1_bring 20 = .ok (.iload_n 1, 1) := by decide +kernel
theorem dX1_bring_21 : decode cX1_bring 21 = .ok (.iload_n 3, 1) := by decide +kernel
theorem dX1_bring_22 : decode cX1_bring 22 = .ok (.invokevirtual 83, 3) := by decide +kernel
theorem dX1_bring_25 : decode cX1_bring 25 = .ok (.iload_n 2, 1) := by decide +kernel
theorem dX1_bring_26 : decode cX1_bring 26 = .ok (.iload_n 3, 1) := by decide +kernel
theorem dX1_bring_27 : decode cX1_bring 27 = .ok (.if_icmp .eq 23, 3) := by decide +kernel
theorem dX1_bring_30 : decode cX1_bring 30 = .ok (.aload_n 0, 1) := by decide +kernel
theorem dX1_bring_31 : decode cX1_bring 31 = .ok (.getfield 12, 3) := by decide +kernel
theorem dX1_bring_34 : decode cX1_bring 34 = .ok (.iconst 1, 1) := by decide +kernel
theorem dX1_bring_35 : decode cX1_bring 35 = .ok (.iload_n 2, 1) := by decide +kernel
theorem dX1_bring_36 : decode cX1_bring 36 = .ok (.iload_n 3, 1) := by decide +kernel
theorem dX1_bring_37 : decode cX1_bring 37 = .ok (.invokevirtual 83, 3) := by decide +kernel
theorem dX1_bring_40 : decode cX1_bring 40 = .ok (.aload_n 0, 1) := by decide +kernel
theorem dX1_bring_41 : decode cX1_bring 41 = .ok (.getfield 21, 3) := by decide +kernel
theorem dX1_bring_44 : decode cX1_bring 44 = .ok (.iconst 1, 1) := by decide +kernel
theorem dX1_bring_45 : decode cX1_bring 45 = .ok (.iload_n 2, 1) := by decide +kernel
theorem dX1_bring_46 : decode cX1_bring 46 = .ok (.iload_n 3, 1) := by decide +kernel
theorem dX1_bring_47 : decode cX1_bring 47 = .ok (.invokevirtual 83, 3) := by decide +kernel
theorem dX1_bring_50 : decode cX1_bring 50 = .ok (.aload_n 0, 1) := by decide +kernel
theorem dX1_bring_51 : decode cX1_bring 51 = .ok (.getfield 12, 3) := by decide +kernel
theorem dX1_bring_54 : decode cX1_bring 54 = .ok (.iload_n 3, 1) := by decide +kernel
theorem dX1_bring_55 : decode cX1_bring 55 = .ok (.iload_n 3, 1) := by decide +kernel
theorem dX1_bring_56 : decode cX1_bring 56 = .ok (.invokevirtual 56, 3) := by decide +kernel
theorem dX1_bring_59 : decode cX1_bring 59 = .ok (.lconst 0, 1) := by decide +kernel
theorem dX1_bring_60 : decode cX1_bring 60 = .ok (.lcmp, 1) := by decide +kernel
theorem dX1_bring_61 : decode cX1_bring 61 = .ok (.ifCond .ge 21, 3) := by decide +kernel
theorem dX1_bring_64 : decode cX1_bring 64 = .ok (.aload_n 0, 1) := by decide +kernel
theorem dX1_bring_65 : decode cX1_bring 65 = .ok (.getfield 12, 3) := by decide +kernel
theorem dX1_bring_68 : decode cX1_bring 68 = .ok (.iconst 0, 1) := by decide +kernel
theorem dX1_bring_69 : decode cX1_bring 69 = .ok (.iload_n 3, 1) := by decide +kernel
theorem dX1_bring_70 : decode cX1_bring 70 = .ok (.invokevirtual 87, 3) := by decide +kernel
theorem dX1_bring_73 : decode cX1_bring 73 = .ok (.aload_n 0, 1) := by decide +kernel
theorem dX1_bring_74 : decode cX1_bring 74 = .ok (.getfield 18, 3) := by decide +kernel
theorem dX1_bring_77 : decode cX1_bring 77 = .ok (.iconst 0, 1) := by decide +kernel
theorem dX1_bring_78 : decode cX1_bring 78 = .ok (.iload_n 3, 1) := by decide +kernel
theorem dX1_bring_79 : decode cX1_bring 79 = .ok (.invokevirtual 87, 3) := by decide +kernel
theorem dX1_bring_82 : decode cX1_bring 82 = .ok (.return_, 1) := by decide +kernel
theorem dX1_addRow_0 : decode cX1_addRow 0 = .ok (.aload_n 0, 1) := by decide +kernel
theorem dX1_addRow_1 : decode cX1_addRow 1 = .ok (.getfield 12, 3) := by decide +kernel
theorem dX1_addRow_4 : decode cX1_addRow 4 = .ok (.iconst 0, 1) := by decide +kernel
theorem dX1_addRow_5 : decode cX1_addRow 5 = .ok (.iload_n 1, 1) := by decide +kernel
theorem dX1_addRow_6 : decode cX1_addRow 6 = .ok (.iload_n 2, 1) := by decide +kernel
theorem dX1_addRow_7 : decode cX1_addRow 7 = .ok (.lload_n 3, 1) := by decide +kernel
theorem dX1_addRow_8 : decode cX1_addRow 8 = .ok (.invokevirtual 91, 3) := by decide +kernel
theorem dX1_addRow_11 : decode cX1_addRow 11 = .ok (.aload_n 0, 1) := by decide +kernel
theorem dX1_addRow_12 : decode cX1_addRow 12 = .ok (.getfield 18, 3) := by decide +kernel
theorem dX1_addRow_15 : decode cX1_addRow 15 = .ok (.iconst 0, 1) := by decide +kernel
theorem dX1_addRow_16 : decode cX1_addRow 16 = .ok (.iload_n 1, 1) := by decide +kernel
theorem dX1_addRow_17 : decode cX1_addRow 17 = .ok (.iload_n 2, 1) := by decide +kernel
theorem dX1_addRow_18 : decode cX1_addRow 18 = .ok (.lload_n 3, 1) := by decide +kernel
theorem dX1_addRow_19 : decode cX1_addRow 19 = .ok (.invokevirtual 91, 3) := by decide +kernel
theorem dX1_addRow_22 : decode cX1_addRow 22 = .ok (.aload_n 0, 1) := by decide +kernel
theorem dX1_addRow_23 : decode cX1_addRow 23 = .ok (.aload_n 0, 1) := by decide +kernel
theorem dX1_addRow_24 : decode cX1_addRow 24 = .ok (.getfield 12, 3) := by decide +kernel
theorem dX1_addRow_27 : decode cX1_addRow 27 = .ok (.ldc2_w 95, 3) := by decide +kernel
theorem dX1_addRow_30 : decode cX1_addRow 30 = .ok (.invokevirtual 97, 3) := by decide +kernel
theorem dX1_addRow_33 : decode cX1_addRow 33 = .ok (.ifCond .eq 16, 3) := by decide +kernel
theorem dX1_addRow_36 : decode cX1_addRow 36 = .ok (.aload_n 0, 1) := by decide +kernel
theorem dX1_addRow_37 : decode cX1_addRow 37 = .ok (.getfield 18, 3) := by decide +kernel
theorem dX1_addRow_40 : decode cX1_addRow 40 = .ok (.ldc2_w 95, 3) := by decide +kernel
theorem dX1_addRow_43 : decode cX1_addRow 43 = .ok (.invokevirtual 97, 3) := by decide +kernel
theorem dX1_addRow_46 : decode cX1_addRow 46 = .ok (.ifCond .ne 7, 3) := by decide +kernel
theorem dX1_addRow_49 : decode cX1_addRow 49 = .ok (.iconst 1, 1) := by decide +kernel
theorem dX1_addRow_50 : decode cX1_addRow 50 = .ok (.goto 4, 3) := by decide +kernel
theorem dX1_addRow_53 : decode cX1_addRow 53 = .ok (.iconst 0, 1) := by decide +kernel
theorem dX1_addRow_54 : decode cX1_addRow 54 = .ok (.putfield 39, 3) := by decide +kernel
theorem dX1_addRow_57 : decode cX1_addRow 57 = .ok (.return_, 1) := by decide +kernel
theorem dX1_addColumn_0 : decode cX1_addColumn 0 = .ok (.aload_n 0, 1) := by decide +kernel
theorem dX1_addColumn_1 : decode cX1_addColumn 1 = .ok (.getfield 12, 3) := by decide +kernel
theorem dX1_addColumn_4 : decode cX1_addColumn 4 = .ok (.iconst 1, 1) := by decide +kernel
theorem dX1_addColumn_5 : decode cX1_addColumn 5 = .ok (.iload_n 1, 1) := by decide +kernel
theorem dX1_addColumn_6 : decode cX1_addColumn 6 = .ok (.iload_n 2, 1) := by decide +kernel
theorem dX1_addColumn_7 : decode cX1_addColumn 7 = .ok (.lload_n 3, 1) := by decide +kernel
theorem dX1_addColumn_8 : decode cX1_addColumn 8 = .ok (.invokevirtual 91, 3) := by decide +kernel
theorem dX1_addColumn_11 : decode cX1_addColumn 11 = .ok (.aload_n 0, 1) := by decide +kernel
theorem dX1_addColumn_12 : decode cX1_addColumn 12 = .ok (.getfield 21, 3) := by decide +kernel
theorem dX1_addColumn_15 : decode cX1_addColumn 15 = .ok (.iconst 1, 1) := by decide +kernel
theorem dX1_addColumn_16 : decode cX1_addColumn 16 = .ok (.iload_n 1, 1) := by decide +kernel
theorem dX1_addColumn_17 : decode cX1_addColumn 17 = .ok (.iload_n 2, 1) := by decide +kernel
theorem dX1_addColumn_18 : decode cX1_addColumn 18 = .ok (.lload_n 3, 1) := by decide +kernel
theorem dX1_addColumn_19 : decode cX1_addColumn 19 = .ok (.invokevirtual 91, 3) := by decide +kernel
theorem dX1_addColumn_22 : decode cX1_addColumn 22 = .ok (.aload_n 0, 1) := by decide +kernel
theorem dX1_addColumn_23 : decode cX1_addColumn 23 = .ok (.aload_n 0, 1) := by decide +kernel
theorem dX1_addColumn_24 : decode cX1_addColumn 24 = .ok (.getfield 12, 3) := by decide +kernel
theorem dX1_addColumn_27 : decode cX1_addColumn 27 = .ok (.ldc2_w 95, 3) := by decide +kernel
theorem dX1_addColumn_30 : decode cX1_addColumn 30 = .ok (.invokevirtual 97, 3) := by decide +kernel
theorem dX1_addColumn_33 : decode cX1_addColumn 33 = .ok (.ifCond .eq 16, 3) := by decide +kernel
theorem dX1_addColumn_36 : decode cX1_addColumn 36 = .ok (.aload_n 0, 1) := by decide +kernel
theorem dX1_addColumn_37 : decode cX1_addColumn 37 = .ok (.getfield 21, 3) := by decide +kernel
theorem dX1_addColumn_40 : decode cX1_addColumn 40 = .ok (.ldc2_w 95, 3) := by decide +kernel
theorem dX1_addColumn_43 : decode cX1_addColumn 43 = .ok (.invokevirtual 97, 3) := by decide +kernel
theorem dX1_addColumn_46 : decode cX1_addColumn 46 = .ok (.ifCond .ne 7, 3) := by decide +kernel
theorem dX1_addColumn_49 : decode cX1_addColumn 49 = .ok (.iconst 1, 1) := by decide +kernel
theorem dX1_addColumn_50 : decode cX1_addColumn 50 = .ok (.goto 4, 3) := by decide +kernel
theorem dX1_addColumn_53 : decode cX1_addColumn 53 = .ok (.iconst 0, 1) := by decide +kernel
theorem dX1_addColumn_54 : decode cX1_addColumn 54 = .ok (.putfield 39, 3) := by decide +kernel
theorem dX1_addColumn_57 : decode cX1_addColumn 57 = .ok (.return_, 1) := by decide +kernel
theorem dX1_isCrossClear_0 : decode cX1_isCrossClear 0 = .ok (.iload_n 1, 1) := by decide +kernel
theorem dX1_isCrossClear_1 : decode cX1_isCrossClear 1 = .ok (.iconst 1, 1) := by decide +kernel
theorem dX1_isCrossClear_2 : decode cX1_isCrossClear 2 = .ok (.iadd, 1) := by decide +kernel
theorem dX1_isCrossClear_3 : decode cX1_isCrossClear 3 = .ok (.istore_n 2, 1) := by decide +kernel
theorem dX1_isCrossClear_4 : decode cX1_isCrossClear 4 = .ok (.iload_n 2, 1) := by decide +kernel
theorem dX1_isCrossClear_5 : decode cX1_isCrossClear 5 = .ok (.aload_n 0, 1) := by decide +kernel
theorem dX1_isCrossClear_6 : decode cX1_isCrossClear 6 = .ok (.getfield 12, 3) := by decide +kernel
theorem dX1_isCrossClear_9 : decode cX1_isCrossClear 9 = .ok (.getfield 28, 3) := by decide +kernel
theorem dX1_isCrossClear_12 : decode cX1_isCrossClear 12 = .ok (.if_icmp .ge 25, 3) := by decide +kernel
theorem dX1_isCrossClear_15 : decode cX1_isCrossClear 15 = .ok (.aload_n 0, 1) := by decide +kernel
theorem dX1_isCrossClear_16 : decode cX1_isCrossClear 16 = .ok (.getfield 12, 3) := by decide +kernel
theorem dX1_isCrossClear_19 : decode cX1_isCrossClear 19 = .ok (.iload_n 2, 1) := by decide +kernel
theorem dX1_isCrossClear_20 : decode cX1_isCrossClear 20 = .ok (.iload_n 1, 1) := by decide +kernel
theorem dX1_isCrossClear_21 : decode cX1_isCrossClear 21 = .ok (.invokevirtual 56, 3) := by decide +kernel
theorem dX1_isCrossClear_24 : decode cX1_isCrossClear 24 = .ok (.lconst 0, 1) := by decide +kernel
theorem dX1_isCrossClear_25 : decode cX1_isCrossClear 25 = .ok (.lcmp, 1) := by decide +kernel
theorem dX1_isCrossClear_26 : decode cX1_isCrossClear 26 = .ok (.ifCond .eq 5, 3) := by decide +kernel
theorem dX1_isCrossClear_29 : decode cX1_isCrossClear 29 = .ok (.iconst 0, 1) := by decide +kernel
theorem dX1_isCrossClear_30 : decode cX1_isCrossClear 30 = .ok (.ireturn, 1) := by decide +kernel
theorem dX1_isCrossClear_31 : decode cX1_isCrossClear 31 = .ok (.iinc 2 1, 3) := by decide +kernel
theorem dX1_isCrossClear_34 : decode cX1_isCrossClear 34 = .ok (.goto (-30), 3) := by decide +kernel
theorem dX1_isCrossClear_37 : decode cX1_isCrossClear 37 = .ok (.iload_n 1, 1) := by decide +kernel
theorem dX1_isCrossClear_38 : decode cX1_isCrossClear 38 = .ok (.iconst 1, 1) := by decide +kernel
theorem dX1_isCrossClear_39 : decode cX1_isCrossClear 39 = .ok (.iadd, 1) := by decide +kernel
theorem dX1_isCrossClear_40 : decode cX1_isCrossClear 40 = .ok (.istore_n 2, 1) := by decide +kernel
theorem dX1_isCrossClear_41 : decode cX1_isCrossClear 41 = .ok (.iload_n 2, 1) := by decide +kernel
theorem dX1_isCrossClear_42 : decode cX1_isCrossClear 42 = .ok (.aload_n 0, 1) := by decide +kernel
theorem dX1_isCrossClear_43 : decode cX1_isCrossClear 43 = .ok (.getfield 12, 3) := by decide +kernel
theorem dX1_isCrossClear_46 : decode cX1_isCrossClear 46 = .ok (.getfield 36, 3) := by decide +kernel
theorem dX1_isCrossClear_49 : decode cX1_isCrossClear 49 = .ok (.if_icmp .ge 25, 3) := by decide +kernel
theorem dX1_isCrossClear_52 : decode cX1_isCrossClear 52 = .ok (.aload_n 0, 1) := by decide +kernel
theorem dX1_isCrossClear_53 : decode cX1_isCrossClear 53 = .ok (.getfield 12, 3) := by decide +kernel
theorem dX1_isCrossClear_56 : decode cX1_isCrossClear 56 = .ok (.iload_n 1, 1) := by decide +kernel
theorem dX1_isCrossClear_57 : decode cX1_isCrossClear 57 = .ok (.iload_n 2, 1) := by decide +kernel
theorem dX1_isCrossClear_58 : decode cX1_isCrossClear 58 = .ok (.invokevirtual 56, 3) := by decide +kernel
theorem dX1_isCrossClear_61 : decode cX1_isCrossClear 61 = .ok (.lconst 0, 1) := by decide +kernel
theorem dX1_isCrossClear_62 : decode cX1_isCrossClear 62 = .ok (.lcmp, 1) := by decide +kernel
theorem dX1_isCrossClear_63 : decode cX1_isCrossClear 63 = .ok (.ifCond .eq 5, 3) := by decide +kernel
theorem dX1_isCrossClear_66 : decode cX1_isCrossClear 66 = .ok (.iconst 0, 1) := by decide +kernel
theorem dX1_isCrossClear_67 : decode cX1_isCrossClear 67 = .ok (.ireturn, 1) := by decide +kernel
theorem dX1_isCrossClear_68 : decode cX1_isCrossClear 68 = .ok (.iinc 2 1, 3) := by decide +kernel
theorem dX1_isCrossClear_71 : decode cX1_isCrossClear 71 = .ok (.goto (-30), 3) := by decide +kernel
theorem dX1_isCrossClear_74 : decode cX1_isCrossClear 74 = .ok (.iconst 1, 1) := by decide +kernel
theorem dX1_isCrossClear_75 : decode cX1_isCrossClear 75 = .ok (.ireturn, 1) := by decide +kernel
theorem dX1_findUndividedRow_0 : decode cX1_findUndividedRow 0 = .ok (.iload_n 1, 1) := by decide +kernel
theorem dX1_findUndividedRow_1 : decode cX1_findUndividedRow 1 = .ok (.iconst 1, 1) := by decide +kernel
theorem dX1_findUndividedRow_2 : decode cX1_findUndividedRow 2 = .ok (.iadd, 1) := by decide +kernel
theorem dX1_findUndividedRow_3 : decode cX1_findUndividedRow 3 = .ok (.istore_n 2, 1) := by decide +kernel
theorem dX1_findUndividedRow_4 : decode cX1_findUndividedRow 4 = .ok (.iload_n 2, 1) := by decide +kernel
theorem dX1_findUndividedRow_5 : decode cX1_findUndividedRow 5 = .ok (.aload_n 0, 1) := by decide +kernel
theorem dX1_findUndividedRow_6 : decode cX1_findUndividedRow 6 = .ok (.getfield 12, 3) := by decide +kernel
theorem dX1_findUndividedRow_9 : decode cX1_findUndividedRow 9 = .ok (.getfield 28, 3) := by decide +kernel
theorem dX1_findUndividedRow_12 : decode cX1_findUndividedRow 12 = .ok (.if_icmp .ge 56, 3) := by decide +kernel
theorem dX1_findUndividedRow_15 : decode cX1_findUndividedRow 15 = .ok (.iload_n 1, 1) := by decide +kernel
theorem dX1_findUndividedRow_16 : decode cX1_findUndividedRow 16 = .ok (.iconst 1, 1) := by decide +kernel
theorem dX1_findUndividedRow_17 : decode cX1_findUndividedRow 17 = .ok (.iadd, 1) := by decide +kernel
theorem dX1_findUndividedRow_18 : decode cX1_findUndividedRow 18 = .ok (.istore_n 3, 1) := by decide +kernel
theorem dX1_findUndividedRow_19 : decode cX1_findUndividedRow 19 = .ok (.iload_n 3, 1) := by decide +kernel
theorem dX1_findUndividedRow_20 : decode cX1_findUndividedRow 20 = .ok (.aload_n 0, 1) := by decide +kernel
theorem dX1_findUndividedRow_21 : decode cX1_findUndividedRow 21 = .ok (.getfield 12, 3) := by decide +kernel
theorem dX1_findUndividedRow_24 : decode cX1_findUndividedRow 24 = .ok (.getfield 36, 3) := by decide +kernel
theorem dX1_findUndividedRow_27 : decode cX1_findUndividedRow 27 = .ok (.if_icmp .ge 35, 3) := by decide +kernel
theorem dX1_findUndividedRow_30 : decode cX1_findUndividedRow 30 = .ok (.aload_n 0, 1) := by decide +kernel
theorem dX1_findUndividedRow_31 : decode cX1_findUndividedRow 31 = .ok (.getfield 12, 3) := by decide +kernel
theorem dX1_findUndividedRow_34 : decode cX1_findUndividedRow 34 = .ok (.iload_n 1, 1) := by decide +kernel
theorem dX1_findUndividedRow_35 : decode cX1_findUndividedRow 35 = .ok (.iload_n 1, 1) := by decide +kernel
theorem dX1_findUndividedRow_36 : decode cX1_findUndividedRow 36 = .ok (.invokevirtual 56, 3) := by decide +kernel
theorem dX1_findUndividedRow_39 : decode cX1_findUndividedRow 39 = .ok (.aload_n 0, 1) := by decide +kernel
theorem dX1_findUndividedRow_40 : decode cX1_findUndividedRow 40 = .ok (.getfield 12, 3) := by decide +kernel
theorem dX1_findUndividedRow_43 : decode cX1_findUndividedRow 43 = .ok (.iload_n 2, 1) := by decide +kernel
theorem dX1_findUndividedRow_44 : decode cX1_findUndividedRow 44 = .ok (.iload_n 3, 1) := by decide +kernel
theorem dX1_findUndividedRow_45 : decode cX1_findUndividedRow 45 = .ok (.invokevirtual 56, 3) := by decide +kernel
theorem dX1_findUndividedRow_48 : decode cX1_findUndividedRow 48 = .ok (.invokestatic 101, 3) := by decide +kernel
theorem dX1_findUndividedRow_51 : decode cX1_findUndividedRow 51 = .ok (.ifCond .ne 5, 3) := by decide +kernel
theorem dX1_findUndividedRow_54 : decode cX1_findUndividedRow 54 = .ok (.iload_n 2, 1) := by decide +kernel
theorem dX1_findUndividedRow_55 : decode cX1_findUndividedRow 55 = .ok (.ireturn, 1) := by decide +kernel
theorem dX1_findUndividedRow_56 : decode cX1_findUndividedRow 56 = .ok (.iinc 3 1, 3) := by decide +kernel
theorem dX1_findUndividedRow_59 : decode cX1_findUndividedRow 59 = .ok (.goto (-40), 3) := by decide +kernel
theorem dX1_findUndividedRow_62 : decode cX1_findUndividedRow 62 = .ok (.iinc 2 1, 3) := by decide +kernel
theorem dX1_findUndividedRow_65 : decode cX1_findUndividedRow 65 = .ok (.goto (-61), 3) := by decide +kernel
theorem dX1_findUndividedRow_68 : decode cX1_findUndividedRow 68 = .ok (.iconst (-1), 1) := by decide +kernel
theorem dX1_findUndividedRow_69 : decode cX1_findUndividedRow 69 = .ok (.ireturn, 1) := by decide +kernel
theorem dX1_countRank_0 : decode cX1_countRank 0 = .ok (.iconst 0, 1) := by decide +kernel
theorem dX1_countRank_1 : decode cX1_countRank 1 = .ok (.istore_n 1, 1) := by decide +kernel
theorem dX1_countRank_2 : decode cX1_countRank 2 = .ok (.iconst 0, 1) := by decide +kernel
theorem dX1_countRank_3 : decode cX1_countRank 3 = .ok (.istore_n 2, 1) := by decide +kernel
theorem dX1_countRank_4 : decode cX1_countRank 4 = .ok (.iload_n 2, 1) := by decide +kernel
theorem dX1_countRank_5 : decode cX1_countRank 5 = .ok (.aload_n 0, 1) := by decide +kernel
theorem dX1_countRank_6 : decode cX1_countRank 6 = .ok (.getfield 12, 3) := by decide +kernel
theorem dX1_countRank_9 : decode cX1_countRank 9 = .ok (.getfield 28, 3) := by decide +kernel
theorem dX1_countRank_12 : decode cX1_countRank 12 = .ok (.if_icmp .ge 37, 3) := by decide +kernel
theorem dX1_countRank_15 : decode cX1_countRank 15 = .ok (.iload_n 2, 1) := by decide +kernel
theorem dX1_countRank_16 : decode cX1_countRank 16 = .ok (.aload_n 0, 1) := by decide +kernel
theorem dX1_countRank_17 : decode cX1_countRank 17 = .ok (.getfield 12, 3) := by decide +kernel
theorem dX1_countRank_20 : decode cX1_countRank 20 = .ok (.getfield 36, 3) := by decide +kernel
theorem dX1_countRank_23 : decode cX1_countRank 23 = .ok (.if_icmp .ge 26, 3) := by decide +kernel
theorem dX1_countRank_26 : decode cX1_countRank 26 = .ok (.aload_n 0, 1) := by decide +kernel
theorem dX1_countRank_27 : decode cX1_countRank 27 = .ok (.getfield 12, 3) := by decide +kernel
theorem dX1_countRank_30 : decode cX1_countRank 30 = .ok (.iload_n 2, 1) := by decide +kernel
theorem dX1_countRank_31 : decode cX1_countRank 31 = .ok (.iload_n 2, 1) := by decide +kernel
theorem dX1_countRank_32 : decode cX1_countRank 32 = .ok (.invokevirtual 56, 3) := by decide +kernel
theorem dX1_countRank_35 : decode cX1_countRank 35 = .ok (.lconst 0, 1) := by decide +kernel
theorem dX1_countRank_36 : decode cX1_countRank 36 = .ok (.lcmp, 1) := by decide +kernel
theorem dX1_countRank_37 : decode cX1_countRank 37 = .ok (.ifCond .eq 6, 3) := by decide +kernel
theorem dX1_countRank_40 : decode cX1_countRank 40 = .ok (.iinc 1 1, 3) := by decide +kernel
theorem dX1_countRank_43 : decode cX1_countRank 43 = .ok (.iinc 2 1, 3) := by decide +kernel
theorem dX1_countRank_46 : decode cX1_countRank 46 = .ok (.goto (-42), 3) := by decide +kernel
theorem dX1_countRank_49 : decode cX1_countRank 49 = .ok (.iload_n 1, 1) := by decide +kernel
theorem dX1_countRank_50 : decode cX1_countRank 50 = .ok (.ireturn, 1) := by decide +kernel
theorem dX2_init_0 : decode cX2_init 0 = .ok (.aload_n 0, 1) := by decide +kernel
theorem dX2_init_1 : decode cX2_init 1 = .ok (.invokespecial 3, 3) := by decide +kernel
theorem dX2_init_4 : decode cX2_init 4 = .ok (.aload_n 0, 1) := by decide +kernel
theorem dX2_init_5 : decode cX2_init 5 = .ok (.new 9, 3) := by decide +kernel
theorem dX2_init_8 : decode cX2_init 8 = .ok (.dup, 1) := by decide +kernel
theorem dX2_init_9 : decode cX2_init 9 = .ok (.invokespecial 11, 3) := by decide +kernel
theorem dX2_init_12 : decode cX2_init 12 = .ok (.putfield 12, 3) := by decide +kernel
theorem dX2_init_15 : decode cX2_init 15 = .ok (.aload_n 0, 1) := by decide +kernel
theorem dX2_init_16 : decode cX2_init 16 = .ok (.new 9, 3) := by decide +kernel
theorem dX2_init_19 : decode cX2_init 19 = .ok (.dup, 1) := by decide +kernel
theorem dX2_init_20 : decode cX2_init 20 = .ok (.invokespecial 11, 3) := by decide +kernel
theorem dX2_init_23 : decode cX2_init 23 = .ok (.putfield 18, 3) := by decide +kernel
theorem dX2_init_26 : decode cX2_init 26 = .ok (.aload_n 0, 1) := by decide +kernel
theorem dX2_init_27 : decode cX2_init 27 = .ok (.new 9, 3) := by decide +kernel
theorem dX2_init_30 : decode cX2_init 30 = .ok (.dup, 1) := by decide +kernel
theorem dX2_init_31 : decode cX2_init 31 = .ok (.invokespecial 11, 3) := by decide +kernel
theorem dX2_init_34 : decode cX2_init 34 = .ok (.putfield 21, 3) := by decide +kernel
theorem dX2_init_37 : decode cX2_init 37 = .ok (.aload_n 0, 1) := by decide +kernel
theorem dX2_init_38 : decode cX2_init 38 = .ok (.new 9, 3) := by decide +kernel
theorem dX2_init_41 : decode cX2_init 41 = .ok (.dup, 1) := by decide +kernel
theorem dX2_init_42 : decode cX2_init 42 = .ok (.invokespecial 11, 3) := by decide +kernel
theorem dX2_init_45 : decode cX2_init 45 = .ok (.putfield 24, 3) := by decide +kernel
theorem dX2_init_48 : decode cX2_init 48 = .ok (.return_, 1) := by decide +kernel
theorem dX2_divide_0 : decode cX2_divide 0 = .ok (.aload_n 0, 1) := by decide +kernel
theorem dX2_divide_1 : decode cX2_divide 1 = .ok (.getfield 12, 3) := by decide +kernel
theorem dX2_divide_4 : decode cX2_divide 4 = .ok (.aload_n 2, 1) := by decide +kernel
theorem dX2_divide_5 : decode cX2_divide 5 = .ok (.iload_n 3, 1) := by decide +kernel
theorem dX2_divide_6 : decode cX2_divide 6 = .ok (.invokevirtual 27, 3) := by decide +kernel
theorem dX2_divide_9 : decode cX2_divide 9 = .ok (.aload_n 0, 1) := by decide +kernel
theorem dX2_divide_10 : decode cX2_divide 10 = .ok (.getfield 18, 3) := by decide +kernel
theorem dX2_divide_13 : decode cX2_divide 13 = .ok (.aload_n 1, 1) := by decide +kernel
theorem dX2_divide_14 : decode cX2_divide 14 = .ok (.getfield 31, 3) := by decide +kernel
theorem dX2_divide_17 : decode cX2_divide 17 = .ok (.aload_n 0, 1) := by decide +kernel
theorem dX2_divide_18 : decode cX2_divide 18 = .ok (.getfield 12, 3) := by decide +kernel
theorem dX2_divide_21 : decode cX2_divide 21 = .ok (.invokevirtual 36, 3) := by decide +kernel
theorem dX2_divide_24 : decode cX2_divide 24 = .ok (.aload_n 0, 1) := by decide +kernel
theorem dX2_divide_25 : decode cX2_divide 25 = .ok (.getfield 21, 3) := by decide +kernel
theorem dX2_divide_28 : decode cX2_divide 28 = .ok (.aload_n 1, 1) := by decide +kernel
theorem dX2_divide_29 : decode cX2_divide 29 = .ok (.getfield 40, 3) := by decide +kernel
theorem dX2_divide_32 : decode cX2_divide 32 = .ok (.getfield 43, 3) := by decide +kernel
theorem dX2_divide_35 : decode cX2_divide 35 = .ok (.iconst 1, 1) := by decide +kernel
theorem dX2_divide_36 : decode cX2_divide 36 = .ok (.invokevirtual 47, 3) := by decide +kernel
theorem dX2_divide_39 : decode cX2_divide 39 = .ok (.aload_n 1, 1) := by decide +kernel
theorem dX2_divide_40 : decode cX2_divide 40 = .ok (.invokevirtual 51, 3) := by decide +kernel
theorem dX2_divide_43 : decode cX2_divide 43 = .ok (.istore 4, 2) := by decide +kernel
theorem dX2_divide_45 : decode cX2_divide 45 = .ok (.iconst 0, 1) := by decide +kernel
theorem dX2_divide_46 : decode cX2_divide 46 = .ok (.istore 5, 2) := by decide +kernel
theorem dX2_divide_48 : decode cX2_divide 48 = .ok (.iload 5, 2) := by decide +kernel
theorem dX2_divide_50 : decode cX2_divide 50 = .ok (.aload_n 0, 1) := by decide +kernel
theorem dX2_divide_51 : decode cX2_divide 51 = .ok (.getfield 18, 3) := by decide +kernel
theorem dX2_divide_54 : decode cX2_divide 54 = .ok (.getfield 55, 3) := by decide +kernel
theorem dX2_divide_57 : decode cX2_divide 57 = .ok (.if_icmp .ge 85, 3) := by decide +kernel
theorem dX2_divide_60 : decode cX2_divide 60 = .ok (.iload 5, 2) := by decide +kernel
theorem dX2_divide_62 : decode cX2_divide 62 = .ok (.iload 4, 2) := by decide +kernel
theorem dX2_divide_64 : decode cX2_divide 64 = .ok (.if_icmp .ge 17, 3) := by decide +kernel
theorem dX2_divide_67 : decode cX2_divide 67 = .ok (.aload_n 1, 1) := by decide +kernel
theorem dX2_divide_68 : decode cX2_divide 68 = .ok (.getfield 40, 3) := by decide +kernel
theorem dX2_divide_71 : decode cX2_divide 71 = .ok (.iload 5, 2) := by decide +kernel
theorem dX2_divide_73 : decode cX2_divide 73 = .ok (.iload 5, 2) := by decide +kernel
theorem dX2_divide_75 : decode cX2_divide 75 = .ok (.invokevirtual 58, 3) := by decide +kernel
theorem dX2_divide_78 : decode cX2_divide 78 = .ok (.goto 4, 3) := by decide +kernel
theorem dX2_divide_81 : decode cX2_divide 81 = .ok (.lconst 0, 1) := by decide +kernel
theorem dX2_divide_82 : decode cX2_divide 82 = .ok (.lstore 6, 2) := by decide +kernel
theorem dX2_divide_84 : decode cX2_divide 84 = .ok (.lload 6, 2) := by decide +kernel
theorem dX2_divide_86 : decode cX2_divide 86 = .ok (.aload_n 0, 1) := by decide +kernel
theorem dX2_divide_87 : decode cX2_divide 87 = .ok (.getfield 18, 3) := by decide +kernel
theorem dX2_divide_90 : decode cX2_divide 90 = .ok (.iload 5, 2) := by decide +kernel
theorem dX2_divide_92 : decode cX2_divide 92 = .ok (.iconst 0, 1) := by decide +kernel
theorem dX2_divide_93 : decode cX2_divide 93 = .ok (.invokevirtual 58, 3) := by decide +kernel
theorem dX2_divide_96 : decode cX2_divide 96 = .ok (.invokestatic 62, 3) := by decide +kernel
theorem dX2_divide_99 : decode cX2_divide 99 = .ok (.ifCond .ne 5, 3) := by decide +kernel
theorem dX2_divide_102 : decode cX2_divide 102 = .ok (.iconst 0, 1) := by decide +kernel
theorem dX2_divide_103 : decode cX2_divide 103 = .ok (.ireturn, 1) := by decide +kernel
theorem dX2_divide_104 : decode cX2_divide 104 = .ok (.iload 5, 2) := by decide +kernel
theorem dX2_divide_106 : decode cX2_divide 106 = .ok (.iload 4, 2) := by decide +kernel
theorem dX2_divide_108 : decode cX2_divide 108 = .ok (.if_icmp .ge 28, 3) := by decide +kernel
theorem dX2_divide_111 : decode cX2_divide 111 = .ok (.aload_n 0, 1) := by decide +kernel
theorem dX2_divide_112 : decode cX2_divide 112 = .ok (.getfield 21, 3) := by decide +kernel
theorem dX2_divide_115 : decode cX2_divide 115 = .ok (.iload 5, 2) := by decide +kernel
theorem dX2_divide_117 : decode cX2_divide 117 = .ok (.iconst 0, 1) := by decide +kernel
theorem dX2_divide_118 : decode cX2_divide 118 = .ok (.aload_n 0, 1) := by decide +kernel
theorem dX2_divide_119 : decode cX2_divide 119 = .ok (.getfield 18, 3) := by decide +kernel
theorem dX2_divide_122 : decode cX2_divide 122 = .ok (.iload 5, 2) := by decide +kernel
theorem dX2_divide_124 : decode cX2_divide 124 = .ok (.iconst 0, 1) := by decide +kernel
theorem dX2_divide_125 : decode cX2_divide 125 = .ok (.invokevirtual 58, 3) := by decide +kernel
theorem dX2_divide_128 : decode cX2_divide 128 = .ok (.lload 6, 2) := by decide +kernel
theorem dX2_divide_130 : decode cX2_divide 130 = .ok (.invokestatic 66, 3) := by decide +kernel
theorem dX2_divide_133 : decode cX2_divide 133 = .ok (.invokevirtual 70, 3) := by decide +kernel
theorem dX2_divide_136 : decode cX2_divide 136 = .ok (.iinc 5 1, 3) := by decide +kernel
theorem dX2_divide_139 : decode cX2_divide 139 = .ok (.goto (-91), 3) := by decide +kernel
theorem dX2_divide_142 : decode cX2_divide 142 = .ok (.iconst 1, 1) := by decide +kernel
theorem dX2_divide_143 : decode cX2_divide 143 = .ok (.ireturn, 1) := by decide +kernel
theorem dX2_findSolution_0 : decode cX2_findSolution 0 = .ok (.aload_n 0, 1) := by decide +kernel
theorem dX2_findSolution_1 : decode cX2_findSolution 1 = .ok (.getfield 21, 3) := by decide +kernel
theorem dX2_findSolution_4 : decode cX2_findSolution 4 = .ok (.ldc2_w 74, 3) := by decide +kernel
theorem dX2_findSolution_7 : decode cX2_findSolution 7 = .ok (.invokevirtual 76, 3) := by decide +kernel
theorem dX2_findSolution_10 : decode cX2_findSolution 10 = .ok (.ifCond .ne 5, 3) := by decide +kernel
theorem dX2_findSolution_13 : decode cX2_findSolution 13 = .ok (.iconst 0, 1) := by decide +kernel
theorem dX2_findSolution_14 : decode cX2_findSolution 14 = .ok (.ireturn, 1) := by decide +kernel
theorem dX2_findSolution_15 : decode cX2_findSolution 15 = .ok (.aload_n 0, 1) := by decide +kernel
theorem dX2_findSolution_16 : decode cX2_findSolution 16 = .ok (.getfield 24, 3) := by decide +kernel
theorem dX2_findSolution_19 : decode cX2_findSolution 19 = .ok (.aload_n 1, 1) := by decide +kernel
theorem dX2_findSolution_20 : decode cX2_findSolution 20 = .ok (.getfield 80, 3) := by decide +kernel
theorem dX2_findSolution_23 : decode cX2_findSolution 23 = .ok (.aload_n 0, 1) := by decide +kernel
theorem dX2_findSolution_24 : decode cX2_findSolution 24 = .ok (.getfield 21, 3) := by decide +kernel
theorem dX2_findSolution_27 : decode cX2_findSolution 27 = .ok (.invokevirtual 36, 3) := by decide +kernel
theorem dX2_findSolution_30 : decode cX2_findSolution 30 = .ok (.aload_n 0, 1) := by decide +kernel
theorem dX2_findSolution_31 : decode cX2_findSolution 31 = .ok (.getfield 24, 3) := by decide +kernel
theorem dX2_findSolution_34 : decode cX2_findSolution 34 = .ok (.ldc2_w 74, 3) := by decide +kernel
theorem dX2_findSolution_37 : decode cX2_findSolution 37 = .ok (.invokevirtual 76, 3) := by decide +kernel
theorem dX2_findSolution_40 : decode cX2_findSolution 40 = .ok (.ireturn, 1) := by decide +kernel
theorem dX3_init_0 : decode cX3_init 0 = .ok (.aload_n 0, 1) := by decide +kernel
theorem dX3_init_1 : decode cX3_init 1 = .ok (.invokespecial 3, 3) := by decide +kernel
theorem dX3_init_4 : decode cX3_init 4 = .ok (.aload_n 0, 1) := by decide +kernel
theorem dX3_init_5 : decode cX3_init 5 = .ok (.bipush 20, 2) := by decide +kernel
theorem dX3_init_7 : decode cX3_init 7 = .ok (.newarray .long, 2) := by decide +kernel
theorem dX3_init_9 : decode cX3_init 9 = .ok (.putfield 9, 3) := by decide +kernel
theorem dX3_init_12 : decode cX3_init 12 = .ok (.aload_n 0, 1) := by decide +kernel
theorem dX3_init_13 : decode cX3_init 13 = .ok (.iconst 1, 1) := by decide +kernel
theorem dX3_init_14 : decode cX3_init 14 = .ok (.putfield 15, 3) := by decide +kernel
theorem dX3_init_17 : decode cX3_init 17 = .ok (.aload_n 0, 1) := by decide +kernel
theorem dX3_init_18 : decode cX3_init 18 = .ok (.iconst 1, 1) := by decide +kernel
theorem dX3_init_19 : decode cX3_init 19 = .ok (.putfield 19, 3) := by decide +kernel
theorem dX3_init_22 : decode cX3_init 22 = .ok (.return_, 1) := by decide +kernel
theorem dX3_get_0 : decode cX3_get 0 = .ok (.iload_n 1, 1) := by decide +kernel
theorem dX3_get_1 : decode cX3_get 1 = .ok (.ifCond .lt 17, 3) := by decide +kernel
theorem dX3_get_4 : decode cX3_get 4 = .ok (.iload_n 1, 1) := by decide +kernel
theorem dX3_get_5 : decode cX3_get 5 = .ok (.iconst 4, 1) := by decide +kernel
theorem dX3_get_6 : decode cX3_get 6 = .ok (.if_icmp .ge 12, 3) := by decide +kernel
theorem dX3_get_9 : decode cX3_get 9 = .ok (.iload_n 2, 1) := by decide +kernel
theorem dX3_get_10 : decode cX3_get 10 = .ok (.ifCond .lt 8, 3) := by decide +kernel
theorem dX3_get_13 : decode cX3_get 13 = .ok (.iload_n 2, 1) := by decide +kernel
theorem dX3_get_14 : decode cX3_get 14 = .ok (.iconst 5, 1) := by decide +kernel
theorem dX3_get_15 : decode cX3_get 15 = .ok (.if_icmp .lt 5, 3) := by decide +kernel
theorem dX3_get_18 : decode cX3_get 18 = .ok (.lconst 0, 1) := by decide +kernel
theorem dX3_get_19 : decode cX3_get 19 = .ok (.lreturn, 1) := by decide +kernel
theorem dX3_get_20 : decode cX3_get 20 = .ok (.aload_n 0, 1) := by decide +kernel
theorem dX3_get_21 : decode cX3_get 21 = .ok (.getfield 9, 3) := by decide +kernel
theorem dX3_get_24 : decode cX3_get 24 = .ok (.iload_n 1, 1) := by decide +kernel
theorem dX3_get_25 : decode cX3_get 25 = .ok (.iconst 5, 1) := by decide +kernel
theorem dX3_get_26 : decode cX3_get 26 = .ok (.imul, 1) := by decide +kernel
theorem dX3_get_27 : decode cX3_get 27 = .ok (.iload_n 2, 1) := by decide +kernel
theorem dX3_get_28 : decode cX3_get 28 = .ok (.iadd, 1) := by decide +kernel
theorem dX3_get_29 : decode cX3_get 29 = .ok (.laload, 1) := by decide +kernel
theorem dX3_get_30 : decode cX3_get 30 = .ok (.lreturn, 1) := by decide +kernel
theorem dX3_set_0 : decode cX3_set 0 = .ok (.iload_n 1, 1) := by decide +kernel
theorem dX3_set_1 : decode cX3_set 1 = .ok (.ifCond .lt 28, 3) := by decide +kernel
theorem dX3_set_4 : decode cX3_set 4 = .ok (.iload_n 1, 1) := by decide +kernel
theorem dX3_set_5 : decode cX3_set 5 = .ok (.iconst 4, 1) := by decide +kernel
theorem dX3_set_6 : decode cX3_set 6 = .ok (.if_icmp .ge 23, 3) := by decide +kernel
theorem dX3_set_9 : decode cX3_set 9 = .ok (.iload_n 2, 1) := by decide +kernel
theorem dX3_set_10 : decode cX3_set 10 = .ok (.ifCond .lt 19, 3) := by decide +kernel
theorem dX3_set_13 : decode cX3_set 13 = .ok (.iload_n 2, 1) := by decide +kernel
theorem dX3_set_14 : decode cX3_set 14 = .ok (.iconst 5, 1) := by decide +kernel
theorem dX3_set_15 : decode cX3_set 15 = .ok (.if_icmp .ge 14, 3) := by decide +kernel
theorem dX3_set_18 : decode cX3_set 18 = .ok (.aload_n 0, 1) := by decide +kernel
theorem dX3_set_19 : decode cX3_set 19 = .ok (.getfield 9, 3) := by decide +kernel
theorem dX3_set_22 : decode cX3_set 22 = .ok (.iload_n 1, 1) := by decide +kernel
theorem dX3_set_23 : decode cX3_set 23 = .ok (.iconst 5, 1) := by decide +kernel
theorem dX3_set_24 : decode cX3_set 24 = .ok (.imul, 1) := by decide +kernel
theorem dX3_set_25 : decode cX3_set 25 = .ok (.iload_n 2, 1) := by decide +kernel
theorem dX3_set_26 : decode cX3_set 26 = .ok (.iadd, 1) := by decide +kernel
theorem dX3_set_27 : decode cX3_set 27 = .ok (.lload_n 3, 1) := by decide +kernel
theorem dX3_set_28 : decode cX3_set 28 = .ok (.lastore, 1) := by decide +kernel
theorem dX3_set_29 : decode cX3_set 29 = .ok (.return_, 1) := by decide +kernel
theorem dX3_countLines_0 : decode cX3_countLines 0 = .ok (.iload_n 1, 1) := by decide +kernel
theorem dX3_countLines_1 : decode cX3_countLines 1 = .ok (.ifCond .eq 10, 3) := by decide +kernel
theorem dX3_countLines_4 : decode cX3_countLines 4 = .ok (.aload_n 0, 1) := by decide +kernel
theorem dX3_countLines_5 : decode cX3_countLines 5 = .ok (.getfield 19, 3) := by decide +kernel
theorem dX3_countLines_8 : decode cX3_countLines 8 = .ok (.goto 7, 3) := by decide +kernel
theorem dX3_countLines_11 : decode cX3_countLines 11 = .ok (.aload_n 0, 1) := by decide +kernel
theorem dX3_countLines_12 : decode cX3_countLines 12 = .ok (.getfield 15, 3) := by decide +kernel
theorem dX3_countLines_15 : decode cX3_countLines 15 = .ok (.ireturn, 1) := by decide +kernel
theorem dX3_hasLine_0 : decode cX3_hasLine 0 = .ok (.iload_n 2, 1) := by decide +kernel
theorem dX3_hasLine_1 : decode cX3_hasLine 1 = .ok (.ifCond .lt 26, 3) := by decide +kernel
theorem dX3_hasLine_4 : decode cX3_hasLine 4 = .ok (.iload_n 2, 1) := by decide +kernel
theorem dX3_hasLine_5 : decode cX3_hasLine 5 = .ok (.iload_n 1, 1) := by decide +kernel
theorem dX3_hasLine_6 : decode cX3_hasLine 6 = .ok (.ifCond .eq 10, 3) := by decide +kernel
theorem dX3_hasLine_9 : decode cX3_hasLine 9 = .ok (.aload_n 0, 1) := by decide +kernel
theorem dX3_hasLine_10 : decode cX3_hasLine 10 = .ok (.getfield 19, 3) := by decide +kernel
theorem dX3_hasLine_13 : decode cX3_hasLine 13 = .ok (.goto 7, 3) := by decide +kernel
theorem dX3_hasLine_16 : decode cX3_hasLine 16 = .ok (.aload_n 0, 1) := by decide +kernel
theorem dX3_hasLine_17 : decode cX3_hasLine 17 = .ok (.getfield 15, 3) := by decide +kernel
theorem dX3_hasLine_20 : decode cX3_hasLine 20 = .ok (.if_icmp .ge 7, 3) := by decide +kernel
theorem dX3_hasLine_23 : decode cX3_hasLine 23 = .ok (.iconst 1, 1) := by decide +kernel
theorem dX3_hasLine_24 : decode cX3_hasLine 24 = .ok (.goto 4, 3) := by decide +kernel
theorem dX3_hasLine_27 : decode cX3_hasLine 27 = .ok (.iconst 0, 1) := by decide +kernel
theorem dX3_hasLine_28 : decode cX3_hasLine 28 = .ok (.ireturn, 1) := by decide +kernel
theorem dX3_reshape_0 : decode cX3_reshape 0 = .ok (.aload_n 0, 1) := by decide +kernel
theorem dX3_reshape_1 : decode cX3_reshape 1 = .ok (.iconst 1, 1) := by decide +kernel
theorem dX3_reshape_2 : decode cX3_reshape 2 = .ok (.iload_n 1, 1) := by decide +kernel
theorem dX3_reshape_3 : decode cX3_reshape 3 = .ok (.iconst 4, 1) := by decide +kernel
theorem dX3_reshape_4 : decode cX3_reshape 4 = .ok (.invokestatic 22, 3) := by decide +kernel
theorem dX3_reshape_7 : decode cX3_reshape 7 = .ok (.invokestatic 28, 3) := by decide +kernel
theorem dX3_reshape_10 : decode cX3_reshape 10 = .ok (.putfield 15, 3) := by decide +kernel
theorem dX3_reshape_13 : decode cX3_reshape 13 = .ok (.aload_n 0, 1) := by decide +kernel
theorem dX3_reshape_14 : decode cX3_reshape 14 = .ok (.iconst 1, 1) := by decide +kernel
theorem dX3_reshape_15 : decode cX3_reshape 15 = .ok (.iload_n 2, 1) := by decide +kernel
theorem dX3_reshape_16 : decode cX3_reshape 16 = .ok (.iconst 5, 1) := by decide +kernel
theorem dX3_reshape_17 : decode cX3_reshape 17 = .ok (.invokestatic 22, 3) := by decide +kernel
theorem dX3_reshape_20 : decode cX3_reshape 20 = .ok (.invokestatic 28, 3) := by decide +kernel
theorem dX3_reshape_23 : decode cX3_reshape 23 = .ok (.putfield 19, 3) := by decide +kernel
theorem dX3_reshape_26 : decode cX3_reshape 26 = .ok (.iconst 0, 1) := by decide +kernel
theorem dX3_reshape_27 : decode cX3_reshape 27 = .ok (.istore_n 3, 1) := by decide +kernel
theorem dX3_reshape_28 : decode cX3_reshape 28 = .ok (.iload_n 3, 1) := by decide +kernel
theorem dX3_reshape_29 : decode cX3_reshape 29 = .ok (.aload_n 0, 1) := by decide +kernel
theorem dX3_reshape_30 : decode cX3_reshape 30 = .ok (.getfield 9, 3) := by decide +kernel
theorem dX3_reshape_33 : decode cX3_reshape 33 = .ok (.arraylength, 1) := by decide +kernel
theorem dX3_reshape_34 : decode cX3_reshape 34 = .ok (.if_icmp .ge 16, 3) := by decide +kernel
theorem dX3_reshape_37 : decode cX3_reshape 37 = .ok (.aload_n 0, 1) := by decide +kernel
theorem dX3_reshape_38 : decode cX3_reshape 38 = .ok (.getfield 9, 3) := by decide +kernel
theorem dX3_reshape_41 : decode cX3_reshape 41 = .ok (.iload_n 3, 1) := by decide +kernel
theorem dX3_reshape_42 : decode cX3_reshape 42 = .ok (.lconst 0, 1) := by decide +kernel
theorem dX3_reshape_43 : decode cX3_reshape 43 = .ok (.lastore, 1) := by decide +kernel
theorem dX3_reshape_44 : decode cX3_reshape 44 = .ok (.iinc 3 1, 3) := by decide +kernel
theorem dX3_reshape_47 : decode cX3_reshape 47 = .ok (.goto (-19), 3) := by decide +kernel
theorem dX3_reshape_50 : decode cX3_reshape 50 = .ok (.return_, 1) := by decide +kernel
theorem dX3_becomeUnit_0 : decode cX3_becomeUnit 0 = .ok (.aload_n 0, 1) := by decide +kernel
theorem dX3_becomeUnit_1 : decode cX3_becomeUnit 1 = .ok (.iload_n 1, 1) := by decide +kernel
theorem dX3_becomeUnit_2 : decode cX3_becomeUnit 2 = .ok (.iload_n 1, 1) := by decide +kernel
theorem dX3_becomeUnit_3 : decode cX3_becomeUnit 3 = .ok (.invokevirtual 31, 3) := by decide +kernel
theorem dX3_becomeUnit_6 : decode cX3_becomeUnit 6 = .ok (.iconst 0, 1) := by decide +kernel
theorem dX3_becomeUnit_7 : decode cX3_becomeUnit 7 = .ok (.istore_n 2, 1) := by decide +kernel
theorem dX3_becomeUnit_8 : decode cX3_becomeUnit 8 = .ok (.iload_n 2, 1) := by decide +kernel
theorem dX3_becomeUnit_9 : decode cX3_becomeUnit 9 = .ok (.aload_n 0, 1) := by decide +kernel
theorem dX3_becomeUnit_10 : decode cX3_becomeUnit 10 = .ok (.getfield 15, 3) := by decide +kernel
theorem dX3_becomeUnit_13 : decode cX3_becomeUnit 13 = .ok (.if_icmp .ge 16, 3) := by decide +kernel
theorem dX3_becomeUnit_16 : decode cX3_becomeUnit 16 = .ok (.aload_n 0, 1) := by decide +kernel
theorem dX3_becomeUnit_17 : decode cX3_becomeUnit 17 = .ok (.iload_n 2, 1) := by decide +kernel
theorem dX3_becomeUnit_18 : decode cX3_becomeUnit 18 = .ok (.iload_n 2, 1) := by decide +kernel
theorem dX3_becomeUnit_19 : decode cX3_becomeUnit 19 = .ok (.lconst 1, 1) := by decide +kernel
theorem dX3_becomeUnit_20 : decode cX3_becomeUnit 20 = .ok (.invokevirtual 35, 3) := by decide +kernel
theorem dX3_becomeUnit_23 : decode cX3_becomeUnit 23 = .ok (.iinc 2 1, 3) := by decide +kernel
theorem dX3_becomeUnit_26 : decode cX3_becomeUnit 26 = .ok (.goto (-18), 3) := by decide +kernel
theorem dX3_becomeUnit_29 : decode cX3_becomeUnit 29 = .ok (.return_, 1) := by decide +kernel
theorem dX3_becomeLike_0 : decode cX3_becomeLike 0 = .ok (.aload_n 0, 1) := by decide +kernel
theorem dX3_becomeLike_1 : decode cX3_becomeLike 1 = .ok (.aload_n 1, 1) := by decide +kernel
theorem dX3_becomeLike_2 : decode cX3_becomeLike 2 = .ok (.getfield 15, 3) := by decide +kernel
theorem dX3_becomeLike_5 : decode cX3_becomeLike 5 = .ok (.putfield 15, 3) := by decide +kernel
theorem dX3_becomeLike_8 : decode cX3_becomeLike 8 = .ok (.aload_n 0, 1) := by decide +kernel
theorem dX3_becomeLike_9 : decode cX3_becomeLike 9 = .ok (.aload_n 1, 1) := by decide +kernel
theorem dX3_becomeLike_10 : decode cX3_becomeLike 10 = .ok (.getfield 19, 3) := by decide +kernel
theorem dX3_becomeLike_13 : decode cX3_becomeLike 13 = .ok (.putfield 19, 3) := by decide +kernel
theorem dX3_becomeLike_16 : decode cX3_becomeLike 16 = .ok (.iconst 0, 1) := by decide +kernel
theorem dX3_becomeLike_17 : decode cX3_becomeLike 17 = .ok (.istore_n 2, 1) := by decide +kernel
theorem dX3_becomeLike_18 : decode cX3_becomeLike 18 = .ok (.iload_n 2, 1) := by decide +kernel
theorem dX3_becomeLike_19 : decode cX3_becomeLike 19 = .ok (.aload_n 0, 1) := by decide +kernel
theorem dX3_becomeLike_20 : decode cX3_becomeLike 20 = .ok (.getfield 9, 3) := by decide +kernel
theorem dX3_becomeLike_23 : decode cX3_becomeLike 23 = .ok (.arraylength, 1) := by decide +kernel
theorem dX3_becomeLike_24 : decode cX3_becomeLike 24 = .ok (.if_icmp .ge 30, 3) := by decide +kernel
theorem dX3_becomeLike_27 : decode cX3_becomeLike 27 = .ok (.iload_n 2, 1) := by decide +kernel
theorem dX3_becomeLike_28 : decode cX3_becomeLike 28 = .ok (.aload_n 1, 1) := by decide +kernel
theorem dX3_becomeLike_29 : decode cX3_becomeLike 29 = .ok (.getfield 9, 3) := by decide +kernel
theorem dX3_becomeLike_32 : decode cX3_becomeLike 32 = .ok (.arraylength, 1) := by decide +kernel
theorem dX3_becomeLike_33 : decode cX3_becomeLike 33 = .ok (.if_icmp .ge 21, 3) := by decide +kernel
theorem dX3_becomeLike_36 : decode cX3_becomeLike 36 = .ok (.aload_n 0, 1) := by decide +kernel
theorem dX3_becomeLike_37 : decode cX3_becomeLike 37 = .ok (.getfield 9, 3) := by decide +kernel
theorem dX3_becomeLike_40 : decode cX3_becomeLike 40 = .ok (.iload_n 2, 1) := by decide +kernel
theorem dX3_becomeLike_41 : decode cX3_becomeLike 41 = .ok (.aload_n 1, 1) := by decide +kernel
theorem dX3_becomeLike_42 : decode cX3_becomeLike 42 = .ok (.getfield 9, 3) := by decide +kernel
theorem dX3_becomeLike_45 : decode cX3_becomeLike 45 = .ok (.iload_n 2, 1) := by decide +kernel
theorem dX3_becomeLike_46 : decode cX3_becomeLike 46 = .ok (.laload, 1) := by decide +kernel
theorem dX3_becomeLike_47 : decode cX3_becomeLike 47 = .ok (.lastore, 1) := by decide +kernel
theorem dX3_becomeLike_48 : decode cX3_becomeLike 48 = .ok (.iinc 2 1, 3) := by decide +kernel
theorem dX3_becomeLike_51 : decode cX3_becomeLike 51 = .ok (.goto (-33), 3) := by decide +kernel
theorem dX3_becomeLike_54 : decode cX3_becomeLike 54 = .ok (.return_, 1) := by decide +kernel
theorem dX3_takeOver_0 : decode cX3_takeOver 0 = .ok (.iconst 0, 1) := by decide +kernel
theorem dX3_takeOver_1 : decode cX3_takeOver 1 = .ok (.istore_n 2, 1) := by decide +kernel
theorem dX3_takeOver_2 : decode cX3_takeOver 2 = .ok (.iload_n 2, 1) := by decide +kernel
theorem dX3_takeOver_3 : decode cX3_takeOver 3 = .ok (.aload_n 0, 1) := by decide +kernel
theorem dX3_takeOver_4 : decode cX3_takeOver 4 = .ok (.getfield 15, 3) := by decide +kernel
theorem dX3_takeOver_7 : decode cX3_takeOver 7 = .ok (.if_icmp .ge 53, 3) := by decide +kernel
theorem dX3_takeOver_10 : decode cX3_takeOver 10 = .ok (.iload_n 2, 1) := by decide +kernel
theorem dX3_takeOver_11 : decode cX3_takeOver 11 = .ok (.aload_n 1, 1) := by decide +kernel
theorem dX3_takeOver_12 : decode cX3_takeOver 12 = .ok (.getfield 15, 3) := by decide +kernel
theorem dX3_takeOver_15 : decode cX3_takeOver 15 = .ok (.if_icmp .ge 45, 3) := by decide +kernel
theorem dX3_takeOver_18 : decode cX3_takeOver 18 = .ok (.iconst 0, 1) := by decide +kernel
theorem dX3_takeOver_19 : decode cX3_takeOver 19 = .ok (.istore_n 3, 1) := by decide +kernel
theorem dX3_takeOver_20 : decode cX3_takeOver 20 = .ok (.iload_n 3, 1) := by decide +kernel
theorem dX3_takeOver_21 : decode cX3_takeOver 21 = .ok (.aload_n 0, 1) := by decide +kernel
theorem dX3_takeOver_22 : decode cX3_takeOver 22 = .ok (.getfield 19, 3) := by decide +kernel
theorem dX3_takeOver_25 : decode cX3_takeOver 25 = .ok (.if_icmp .ge 29, 3) := by decide +kernel
theorem dX3_takeOver_28 : decode cX3_takeOver 28 = .ok (.iload_n 3, 1) := by decide +kernel
theorem dX3_takeOver_29 : decode cX3_takeOver 29 = .ok (.aload_n 1, 1) := by decide +kernel
theorem dX3_takeOver_30 : decode cX3_takeOver 30 = .ok (.getfield 19, 3) := by decide +kernel
theorem dX3_takeOver_33 : decode cX3_takeOver 33 = .ok (.if_icmp .ge 21, 3) := by decide +kernel
theorem dX3_takeOver_36 : decode cX3_takeOver 36 = .ok (.aload_n 0, 1) := by decide +kernel
theorem dX3_takeOver_37 : decode cX3_takeOver 37 = .ok (.iload_n 2, 1) := by decide +kernel
theorem dX3_takeOver_38 : decode cX3_takeOver 38 = .ok (.iload_n 3, 1) := by decide +kernel
theorem dX3_takeOver_39 : decode cX3_takeOver 39 = .ok (.aload_n 1, 1) := by decide +kernel
theorem dX3_takeOver_40 : decode cX3_takeOver 40 = .ok (.iload_n 2, 1) := by decide +kernel
theorem dX3_takeOver_41 : decode cX3_takeOver 41 = .ok (.iload_n 3, 1) := by decide +kernel
theorem dX3_takeOver_42 : decode cX3_takeOver 42 = .ok (.invokevirtual 39, 3) := by decide +kernel
theorem dX3_takeOver_45 : decode cX3_takeOver 45 = .ok (.invokevirtual 35, 3) := by decide +kernel
theorem dX3_takeOver_48 : decode cX3_takeOver 48 = .ok (.iinc 3 1, 3) := by decide +kernel
theorem dX3_takeOver_51 : decode cX3_takeOver 51 = .ok (.goto (-31), 3) := by decide +kernel
theorem dX3_takeOver_54 : decode cX3_takeOver 54 = .ok (.iinc 2 1, 3) := by decide +kernel
theorem dX3_takeOver_57 : decode cX3_takeOver 57 = .ok (.goto (-55), 3) := by decide +kernel
theorem dX3_takeOver_60 : decode cX3_takeOver 60 = .ok (.return_, 1) := by decide +kernel
theorem dX3_becomeColumn_0 : decode cX3_becomeColumn 0 = .ok (.aload_n 0, 1) := by decide +kernel
theorem dX3_becomeColumn_1 : decode cX3_becomeColumn 1 = .ok (.aload_n 1, 1) := by decide +kernel
theorem dX3_becomeColumn_2 : decode cX3_becomeColumn 2 = .ok (.getfield 15, 3) := by decide +kernel
theorem dX3_becomeColumn_5 : decode cX3_becomeColumn 5 = .ok (.iconst 1, 1) := by decide +kernel
theorem dX3_becomeColumn_6 : decode cX3_becomeColumn 6 = .ok (.invokevirtual 31, 3) := by decide +kernel
theorem dX3_becomeColumn_9 : decode cX3_becomeColumn 9 = .ok (.iconst 0, 1) := by decide +kernel
theorem dX3_becomeColumn_10 : decode cX3_becomeColumn 10 = .ok (.istore_n 3, 1) := by decide +kernel
theorem dX3_becomeColumn_11 : decode cX3_becomeColumn 11 = .ok (.iload_n 3, 1) := by decide +kernel
theorem dX3_becomeColumn_12 : decode cX3_becomeColumn 12 = .ok (.aload_n 0, 1) := by decide +kernel
theorem dX3_becomeColumn_13 : decode cX3_becomeColumn 13 = .ok (.getfield 15, 3) := by decide +kernel
theorem dX3_becomeColumn_16 : decode cX3_becomeColumn 16 = .ok (.if_icmp .ge 21, 3) := by decide +kernel
theorem dX3_becomeColumn_19 : decode cX3_becomeColumn 19 = .ok (.aload_n 0, 1) := by decide +kernel
theorem dX3_becomeColumn_20 : decode cX3_becomeColumn 20 = .ok (.iload_n 3, 1) := by decide +kernel
theorem dX3_becomeColumn_21 : decode cX3_becomeColumn 21 = .ok (.iconst 0, 1) := by decide +kernel
theorem dX3_becomeColumn_22 : decode cX3_becomeColumn 22 = .ok (.aload_n 1, 1) := by decide +kernel
theorem dX3_becomeColumn_23 : decode cX3_becomeColumn 23 = .ok (.iload_n 3, 1) := by decide +kernel
theorem dX3_becomeColumn_24 : decode cX3_becomeColumn 24 = .ok (.iload_n 2, 1) := by decide +kernel
theorem dX3_becomeColumn_25 : decode cX3_becomeColumn 25 = .ok (.invokevirtual 39, 3) := by decide +kernel
theorem dX3_becomeColumn_28 : decode cX3_becomeColumn 28 = .ok (.invokevirtual 35, 3) := by decide +kernel
theorem dX3_becomeColumn_31 : decode cX3_becomeColumn 31 = .ok (.iinc 3 1, 3) := by decide +kernel
theorem dX3_becomeColumn_34 : decode cX3_becomeColumn 34 = .ok (.goto (-23), 3) := by decide +kernel
theorem dX3_becomeColumn_37 : decode cX3_becomeColumn 37 = .ok (.return_, 1) := by decide +kernel
theorem dX3_becomeProduct_0 : decode cX3_becomeProduct 0 = .ok (.aload_n 0, 1) := by decide +kernel
theorem dX3_becomeProduct_1 : decode cX3_becomeProduct 1 = .ok (.aload_n 1, 1) := by decide +kernel
theorem dX3_becomeProduct_2 : decode cX3_becomeProduct 2 = .ok (.getfield 15, 3) := by decide +kernel
theorem dX3_becomeProduct_5 : decode cX3_becomeProduct 5 = .ok (.aload_n 2, 1) := by decide +kernel
theorem dX3_becomeProduct_6 : decode cX3_becomeProduct 6 = .ok (.getfield 19, 3) := by decide +kernel
theorem dX3_becomeProduct_9 : decode cX3_becomeProduct 9 = .ok (.invokevirtual 31, 3) := by decide +kernel
theorem dX3_becomeProduct_12 : decode cX3_becomeProduct 12 = .ok (.iconst 0, 1) := by decide +kernel
theorem dX3_becomeProduct_13 : decode cX3_becomeProduct 13 = .ok (.istore_n 3, 1) := by decide +kernel
theorem dX3_becomeProduct_14 : decode cX3_becomeProduct 14 = .ok (.iload_n 3, 1) := by decide +kernel
theorem dX3_becomeProduct_15 : decode cX3_becomeProduct 15 = .ok (.aload_n 0, 1) := by decide +kernel
theorem dX3_becomeProduct_16 : decode cX3_becomeProduct 16 = .ok (.getfield 15, 3) := by decide +kernel
theorem dX3_becomeProduct_19 : decode cX3_becomeProduct 19 = .ok (.if_icmp .ge 78, 3) := by decide +kernel
theorem dX3_becomeProduct_22 : decode cX3_becomeProduct 22 = .ok (.iconst 0, 1) := by decide +kernel
theorem dX3_becomeProduct_23 : decode cX3_becomeProduct 23 = .ok (.istore 4, 2) := by decide +kernel
theorem dX3_becomeProduct_25 : decode cX3_becomeProduct 25 = .ok (.iload 4, 2) := by decide +kernel
theorem dX3_becomeProduct_27 : decode cX3_becomeProduct 27 = .ok (.aload_n 0, 1) := by decide +kernel
theorem dX3_becomeProduct_28 : decode cX3_becomeProduct 28 = .ok (.getfield 19, 3) := by decide +kernel
theorem dX3_becomeProduct_31 : decode cX3_becomeProduct 31 = .ok (.if_icmp .ge 60, 3) := by decide +kernel
theorem dX3_becomeProduct_34 : decode cX3_becomeProduct 34 = .ok (.lconst 0, 1) := by decide +kernel
theorem dX3_becomeProduct_35 : decode cX3_becomeProduct 35 = .ok (.lstore 5, 2) := by decide +kernel
theorem dX3_becomeProduct_37 : decode cX3_becomeProduct 37 = .ok (.iconst 0, 1) := by decide +kernel
theorem dX3_becomeProduct_38 : decode cX3_becomeProduct 38 = .ok (.istore 7, 2) := by decide +kernel
theorem dX3_becomeProduct_40 : decode cX3_becomeProduct 40 = .ok (.iload 7, 2) := by decide +kernel
theorem dX3_becomeProduct_42 : decode cX3_becomeProduct 42 = .ok (.aload_n 1, 1) := by decide +kernel
theorem dX3_becomeProduct_43 : decode cX3_becomeProduct 43 = .ok (.getfield 19, 3) := by decide +kernel
theorem dX3_becomeProduct_46 : decode cX3_becomeProduct 46 = .ok (.if_icmp .ge 30, 3) := by decide +kernel
theorem dX3_becomeProduct_49 : decode cX3_becomeProduct 49 = .ok (.lload 5, 2) := by decide +kernel
theorem dX3_becomeProduct_51 : decode cX3_becomeProduct 51 = .ok (.aload_n 1, 1) := by decide +kernel
theorem dX3_becomeProduct_52 : decode cX3_becomeProduct 52 = .ok (.iload_n 3, 1) := by decide +kernel
theorem dX3_becomeProduct_53 : decode cX3_becomeProduct 53 = .ok (.iload 7, 2) := by decide +kernel
theorem dX3_becomeProduct_55 : decode cX3_becomeProduct 55 = .ok (.invokevirtual 39, 3) := by decide +kernel
theorem dX3_becomeProduct_58 : decode cX3_becomeProduct 58 = .ok (.aload_n 2, 1) := by decide +kernel
theorem dX3_becomeProduct_59 : decode cX3_becomeProduct 59 = .ok (.iload 7, 2) := by decide +kernel
theorem dX3_becomeProduct_61 : decode cX3_becomeProduct 61 = .ok (.iload 4, 2) := by decide +kernel
theorem dX3_becomeProduct_63 : decode cX3_becomeProduct 63 = .ok (.invokevirtual 39, 3) := by decide +kernel
theorem dX3_becomeProduct_66 : decode cX3_becomeProduct 66 = .ok (.lmul, 1) := by decide +kernel
theorem dX3_becomeProduct_67 : decode cX3_becomeProduct 67 = .ok (.ladd, 1) := by decide +kernel
theorem dX3_becomeProduct_68 : decode cX3_becomeProduct 68 = .ok (.lstore 5, 2) := by decide +kernel
theorem dX3_becomeProduct_70 : decode cX3_becomeProduct 70 = .ok (.iinc 7 1, 3) := by decide +kernel
theorem dX3_becomeProduct_73 : decode cX3_becomeProduct 73 = .ok (.goto (-33), 3) := by decide +kernel
theorem dX3_becomeProduct_76 : decode cX3_becomeProduct 76 = .ok (.aload_n 0, 1) := by decide +kernel
theorem dX3_becomeProduct_77 : decode cX3_becomeProduct 77 = .ok (.iload_n 3, 1) := by decide +kernel
theorem dX3_becomeProduct_78 : decode cX3_becomeProduct 78 = .ok (.iload 4, 2) := by decide +kernel
theorem dX3_becomeProduct_80 : decode cX3_becomeProduct 80 = .ok (.lload 5, 2) := by decide +kernel
theorem dX3_becomeProduct_82 : decode cX3_becomeProduct 82 = .ok (.invokevirtual 35, 3) := by decide +kernel
theorem dX3_becomeProduct_85 : decode cX3_becomeProduct 85 = .ok (.iinc 4 1, 3) := by decide +kernel
theorem dX3_becomeProduct_88 : decode cX3_becomeProduct 88 = .ok (.goto (-63), 3) := by decide +kernel
theorem dX3_becomeProduct_91 : decode cX3_becomeProduct 91 = .ok (.iinc 3 1, 3) := by decide +kernel
theorem dX3_becomeProduct_94 : decode cX3_becomeProduct 94 = .ok (.goto (-80), 3) := by decide +kernel
theorem dX3_becomeProduct_97 : decode cX3_becomeProduct 97 = .ok (.return_, 1) := by decide +kernel
theorem dX3_exchangeLines_0 : decode cX3_exchangeLines 0 = .ok (.iload_n 1, 1) := by decide +kernel
theorem dX3_exchangeLines_1 : decode cX3_exchangeLines 1 = .ok (.ifCond .eq 10, 3) := by decide +kernel
theorem dX3_exchangeLines_4 : decode cX3_exchangeLines 4 = .ok (.aload_n 0, 1) := by decide +kernel
theorem dX3_exchangeLines_5 : decode cX3_exchangeLines 5 = .ok (.getfield 15, 3) := by decide +kernel
theorem dX3_exchangeLines_8 : decode cX3_exchangeLines 8 = .ok (.goto 7, 3) := by decide +kernel
theorem dX3_exchangeLines_11 : decode cX3_exchangeLines 11 = .ok (.aload_n 0, 1) := by decide +kernel
theorem dX3_exchangeLines_12 : decode cX3_exchangeLines 12 = .ok (.getfield 19, 3) := by decide +kernel
theorem dX3_exchangeLines_15 : decode cX3_exchangeLines 15 = .ok (.istore 4, 2) := by decide +kernel
theorem dX3_exchangeLines_17 : decode cX3_exchangeLines 17 = .ok (.iconst 0, 1) := by decide +kernel
theorem dX3_exchangeLines_18 : decode cX3_exchangeLines 18 = .ok (.istore 5, 2) := by decide +kernel
theorem dX3_exchangeLines_20 : decode cX3_exchangeLines 20 = .ok (.iload 5, 2) := by decide +kernel
theorem dX3_exchangeLines_22 : decode cX3_exchangeLines 22 = .ok (.iload 4, 2) := by decide +kernel
theorem dX3_exchangeLines_24 : decode cX3_exchangeLines 24 = .ok (.if_icmp .ge 85, 3) := by decide +kernel
theorem dX3_exchangeLines_27 : decode cX3_exchangeLines 27 = .ok (.iload_n 1, 1) := by decide +kernel
theorem dX3_exchangeLines_28 : decode cX3_exchangeLines 28 = .ok (.ifCond .eq 13, 3) := by decide +kernel
theorem dX3_exchangeLines_31 : decode cX3_exchangeLines 31 = .ok (.aload_n 0, 1) := by decide +kernel
theorem dX3_exchangeLines_32 : decode cX3_exchangeLines 32 = .ok (.iload 5, 2) := by decide +kernel
theorem dX3_exchangeLines_34 : decode cX3_exchangeLines 34 = .ok (.iload_n 2, 1) := by decide +kernel
theorem dX3_exchangeLines_35 : decode cX3_exchangeLines 35 = .ok (.invokevirtual 39, 3) := by decide +kernel
theorem dX3_exchangeLines_38 : decode cX3_exchangeLines 38 = .ok (.goto 10, 3) := by decide +kernel
theorem dX3_exchangeLines_41 : decode cX3_exchangeLines 41 = .ok (.aload_n 0, 1) := by decide +kernel
theorem dX3_exchangeLines_42 : decode cX3_exchangeLines 42 = .ok (.iload_n 2, 1) := by decide +kernel
theorem dX3_exchangeLines_43 : decode cX3_exchangeLines 43 = .ok (.iload 5, 2) := by decide +kernel
theorem dX3_exchangeLines_45 : decode cX3_exchangeLines 45 = .ok (.invokevirtual 39, 3) := by decide +kernel
theorem dX3_exchangeLines_48 : decode cX3_exchangeLines 48 = .ok (.lstore 6, 2) := by decide +kernel
theorem dX3_exchangeLines_50 : decode cX3_exchangeLines 50 = .ok (.iload_n 1, 1) := by decide +kernel
theorem dX3_exchangeLines_51 : decode cX3_exchangeLines 51 = .ok (.ifCond .eq 29, 3) := by decide +kernel
theorem dX3_exchangeLines_54 : decode cX3_exchangeLines 54 = .ok (.aload_n 0, 1) := by decide +kernel
theorem dX3_exchangeLines_55 : decode cX3_exchangeLines 55 = .ok (.iload 5, 2) := by decide +kernel
theorem dX3_exchangeLines_57 : decode cX3_exchangeLines 57 = .ok (.iload_n 2, 1) := by decide +kernel
theorem dX3_exchangeLines_58 : decode cX3_exchangeLines 58 = .ok (.aload_n 0, 1) := by decide +kernel
theorem dX3_exchangeLines_59 : decode cX3_exchangeLines 59 = .ok (.iload 5, 2) := by decide +kernel
theorem dX3_exchangeLines_61 : decode cX3_exchangeLines 61 = .ok (.iload_n 3, 1) := by decide +kernel
theorem dX3_exchangeLines_62 : decode cX3_exchangeLines 62 = .ok (.invokevirtual 39, 3) := by decide +kernel
theorem dX3_exchangeLines_65 : decode cX3_exchangeLines 65 = .ok (.invokevirtual 35, 3) := by decide +kernel
theorem dX3_exchangeLines_68 : decode cX3_exchangeLines 68 = .ok (.aload_n 0, 1) := by decide +kernel
theorem dX3_exchangeLines_69 : decode cX3_exchangeLines 69 = .ok (.iload 5, 2) := by decide +kernel
theorem dX3_exchangeLines_71 : decode cX3_exchangeLines 71 = .ok (.iload_n 3, 1) := by decide +kernel
theorem dX3_exchangeLines_72 : decode cX3_exchangeLines 72 = .ok (.lload 6, 2) := by decide +kernel
theorem dX3_exchangeLines_74 : decode cX3_exchangeLines 74 = .ok (.invokevirtual 35, 3) := by decide +kernel
theorem dX3_exchangeLines_77 : decode cX3_exchangeLines 77 = .ok (.goto 26, 3) := by decide +kernel
theorem dX3_exchangeLines_80 : decode cX3_exchangeLines 80 = .ok (.aload_n 0, 1) := by decide +kernel
theorem dX3_exchangeLines_81 : decode cX3_exchangeLines 81 = .ok (.iload_n 2, 1) := by decide +kernel
theorem dX3_exchangeLines_82 : decode cX3_exchangeLines 82 = .ok (.iload 5, 2) := by decide +kernel
theorem dX3_exchangeLines_84 : decode cX3_exchangeLines 84 = .ok (.aload_n 0, 1) := by decide +kernel
theorem dX3_exchangeLines_85 : decode cX3_exchangeLines 85 = .ok (.iload_n 3, 1) := by decide +kernel
theorem dX3_exchangeLines_86 : decode cX3_exchangeLines 86 = .ok (.iload 5, 2) := by decide +kernel
theorem dX3_exchangeLines_88 : decode cX3_exchangeLines 88 = .ok (.invokevirtual 39, 3) := by decide +kernel
theorem dX3_exchangeLines_91 : decode cX3_exchangeLines 91 = .ok (.invokevirtual 35, 3) := by decide +kernel
theorem dX3_exchangeLines_94 : decode cX3_exchangeLines 94 = .ok (.aload_n 0, 1) := by decide +kernel
theorem dX3_exchangeLines_95 : decode cX3_exchangeLines 95 = .ok (.iload_n 3, 1) := by decide +kernel
theorem dX3_exchangeLines_96 : decode cX3_exchangeLines 96 = .ok (.iload 5, 2) := by decide +kernel
theorem dX3_exchangeLines_98 : decode cX3_exchangeLines 98 = .ok (.lload 6, 2) := by decide +kernel
theorem dX3_exchangeLines_100 : decode cX3_exchangeLines 100 = .ok (.invokevirtual 35, 3) := by decide +kernel
theorem dX3_exchangeLines_103 : decode cX3_exchangeLines 103 = .ok (.iinc 5 1, 3) := by decide +kernel
theorem dX3_exchangeLines_106 : decode cX3_exchangeLines 106 = .ok (.goto (-86), 3) := by decide +kernel
theorem dX3_exchangeLines_109 : decode cX3_exchangeLines 109 = .ok (.return_, 1) := by decide +kernel
theorem dX3_turnLine_0 : decode cX3_turnLine 0 = .ok (.iload_n 1, 1) := by decide +kernel
theorem dX3_turnLine_1 : decode cX3_turnLine 1 = .ok (.ifCond .eq 10, 3) := by decide +kernel
theorem dX3_turnLine_4 : decode cX3_turnLine 4 = .ok (.aload_n 0, 1) := by decide +kernel
theorem dX3_turnLine_5 : decode cX3_turnLine 5 = .ok (.getfield 15, 3) := by decide +kernel
theorem dX3_turnLine_8 : decode cX3_turnLine 8 = .ok (.goto 7, 3) := by decide +kernel
theorem dX3_turnLine_11 : decode cX3_turnLine 11 = .ok (.aload_n 0, 1) := by decide +kernel
theorem dX3_turnLine_12 : decode cX3_turnLine 12 = .ok (.getfield 19, 3) := by decide +kernel
theorem dX3_turnLine_15 : decode cX3_turnLine 15 = .ok (.istore_n 3, 1) := by decide +kernel
theorem dX3_turnLine_16 : decode cX3_turnLine 16 = .ok (.iconst 0, 1) := by decide +kernel
theorem dX3_turnLine_17 : decode cX3_turnLine 17 = .ok (.istore 4, 2) := by decide +kernel
theorem dX3_turnLine_19 : decode cX3_turnLine 19 = .ok (.iload 4, 2) := by decide +kernel
theorem dX3_turnLine_21 : decode cX3_turnLine 21 = .ok (.iload_n 3, 1) := by decide +kernel
theorem dX3_turnLine_22 : decode cX3_turnLine 22 = .ok (.if_icmp .ge 46, 3) := by decide +kernel
theorem dX3_turnLine_25 : decode cX3_turnLine 25 = .ok (.iload_n 1, 1) := by decide +kernel
theorem dX3_turnLine_26 : decode cX3_turnLine 26 = .ok (.ifCond .eq 21, 3) := by decide +kernel
theorem dX3_turnLine_29 : decode cX3_turnLine 29 = .ok (.aload_n 0, 1) := by decide +kernel
theorem dX3_turnLine_30 : decode cX3_turnLine 30 = .ok (.iload 4, 2) := by decide +kernel
theorem dX3_turnLine_32 : decode cX3_turnLine 32 = .ok (.iload_n 2, 1) := by decide +kernel
theorem dX3_turnLine_33 : decode cX3_turnLine 33 = .ok (.aload_n 0, 1) := by decide +kernel
theorem dX3_turnLine_34 : decode cX3_turnLine 34 = .ok (.iload 4, 2) := by decide +kernel
theorem dX3_turnLine_36 : decode cX3_turnLine 36 = .ok (.iload_n 2, 1) := by decide +kernel
theorem dX3_turnLine_37 : decode cX3_turnLine 37 = .ok (.invokevirtual 39, 3) := by decide +kernel
theorem dX3_turnLine_40 : decode cX3_turnLine 40 = .ok (.lneg, 1) := by decide +kernel
theorem dX3_turnLine_41 : decode cX3_turnLine 41 = .ok (.invokevirtual 35, 3) := by decide +kernel
theorem dX3_turnLine_44 : decode cX3_turnLine 44 = .ok (.goto 18, 3) := by decide +kernel
theorem dX3_turnLine_47 : decode cX3_turnLine 47 = .ok (.aload_n 0, 1) := by decide +kernel
theorem dX3_turnLine_48 : decode cX3_turnLine 48 = .ok (.iload_n 2, 1) := by decide +kernel
theorem dX3_turnLine_49 : decode cX3_turnLine 49 = .ok (.iload 4, 2) := by decide +kernel
theorem dX3_turnLine_51 : decode cX3_turnLine 51 = .ok (.aload_n 0, 1) := by decide +kernel
theorem dX3_turnLine_52 : decode cX3_turnLine 52 = .ok (.iload_n 2, 1) := by decide +kernel
theorem dX3_turnLine_53 : decode cX3_turnLine 53 = .ok (.iload 4, 2) := by decide +kernel
theorem dX3_turnLine_55 : decode cX3_turnLine 55 = .ok (.invokevirtual 39, 3) := by decide +kernel
theorem dX3_turnLine_58 : decode cX3_turnLine 58 = .ok (.lneg, 1) := by decide +kernel
theorem dX3_turnLine_59 : decode cX3_turnLine 59 = .ok (.invokevirtual 35, 3) := by decide +kernel
theorem dX3_turnLine_62 : decode cX3_turnLine 62 = .ok (.iinc 4 1, 3) := by decide +kernel
theorem dX3_turnLine_65 : decode cX3_turnLine 65 = .ok (.goto (-46), 3) := by decide +kernel
theorem dX3_turnLine_68 : decode cX3_turnLine 68 = .ok (.return_, 1) := by decide +kernel
theorem dX3_addLine_0 : decode cX3_addLine 0 = .ok (.iload_n 1, 1) := by decide +kernel
theorem dX3_addLine_1 : decode cX3_addLine 1 = .ok (.ifCond .eq 10, 3) := by decide +kernel
theorem dX3_addLine_4 : decode cX3_addLine 4 = .ok (.aload_n 0, 1) := by decide +kernel
theorem dX3_addLine_5 : decode cX3_addLine 5 = .ok (.getfield 15, 3) := by decide +kernel
theorem dX3_addLine_8 : decode cX3_addLine 8 = .ok (.goto 7, 3) := by decide +kernel
theorem dX3_addLine_11 : decode cX3_addLine 11 = .ok (.aload_n 0, 1) := by decide +kernel
theorem dX3_addLine_12 : decode cX3_addLine 12 = .ok (.getfield 19, 3) := by decide +kernel
theorem dX3_addLine_15 : decode cX3_addLine 15 = .ok (.istore 6, 2) := by decide +kernel
theorem dX3_addLine_17 : decode cX3_addLine 17 = .ok (.iconst 0, 1) := by decide +kernel
theorem dX3_addLine_18 : decode cX3_addLine 18 = .ok (.istore 7, 2) := by decide +kernel
theorem dX3_addLine_20 : decode cX3_addLine 20 = .ok (.iload 7, 2) := by decide +kernel
theorem dX3_addLine_22 : decode cX3_addLine 22 = .ok (.iload 6, 2) := by decide +kernel
theorem dX3_addLine_24 : decode cX3_addLine 24 = .ok (.if_icmp .ge 66, 3) := by decide +kernel
theorem dX3_addLine_27 : decode cX3_addLine 27 = .ok (.iload_n 1, 1) := by decide +kernel
theorem dX3_addLine_28 : decode cX3_addLine 28 = .ok (.ifCond .eq 31, 3) := by decide +kernel
theorem dX3_addLine_31 : decode cX3_addLine 31 = .ok (.aload_n 0, 1) := by decide +kernel
theorem dX3_addLine_32 : decode cX3_addLine 32 = .ok (.iload 7, 2) := by decide +kernel
theorem dX3_addLine_34 : decode cX3_addLine 34 = .ok (.iload_n 2, 1) := by decide +kernel
theorem dX3_addLine_35 : decode cX3_addLine 35 = .ok (.aload_n 0, 1) := by decide +kernel
theorem dX3_addLine_36 : decode cX3_addLine 36 = .ok (.iload 7, 2) := by decide +kernel
theorem dX3_addLine_38 : decode cX3_addLine 38 = .ok (.iload_n 2, 1) := by decide +kernel
theorem dX3_addLine_39 : decode cX3_addLine 39 = .ok (.invokevirtual 39, 3) := by decide +kernel
theorem dX3_addLine_42 : decode cX3_addLine 42 = .ok (.lload 4, 2) := by decide +kernel
theorem dX3_addLine_44 : decode cX3_addLine 44 = .ok (.aload_n 0, 1) := by decide +kernel
theorem dX3_addLine_45 : decode cX3_addLine 45 = .ok (.iload 7, 2) := by decide +kernel
theorem dX3_addLine_47 : decode cX3_addLine 47 = .ok (.iload_n 3, 1) := by decide +kernel
theorem dX3_addLine_48 : decode cX3_addLine 48 = .ok (.invokevirtual 39, 3) := by decide +kernel
theorem dX3_addLine_51 : decode cX3_addLine 51 = .ok (.lmul, 1) := by decide +kernel
theorem dX3_addLine_52 : decode cX3_addLine 52 = .ok (.ladd, 1) := by decide +kernel
theorem dX3_addLine_53 : decode cX3_addLine 53 = .ok (.invokevirtual 35, 3) := by decide +kernel
theorem dX3_addLine_56 : decode cX3_addLine 56 = .ok (.goto 28, 3) := by decide +kernel
theorem dX3_addLine_59 : decode cX3_addLine 59 = .ok (.aload_n 0, 1) := by decide +kernel
theorem dX3_addLine_60 : decode cX3_addLine 60 = .ok (.iload_n 2, 1) := by decide +kernel
theorem dX3_addLine_61 : decode cX3_addLine 61 = .ok (.iload 7, 2) := by decide +kernel
theorem dX3_addLine_63 : decode cX3_addLine 63 = .ok (.aload_n 0, 1) := by decide +kernel
theorem dX3_addLine_64 : decode cX3_addLine 64 = .ok (.iload_n 2, 1) := by decide +kernel
theorem dX3_addLine_65 : decode cX3_addLine 65 = .ok (.iload 7, 2) := by decide +kernel
theorem dX3_addLine_67 : decode cX3_addLine 67 = .ok (.invokevirtual 39, 3) := by decide +kernel
theorem dX3_addLine_70 : decode cX3_addLine 70 = .ok (.lload 4, 2) := by decide +kernel
theorem dX3_addLine_72 : decode cX3_addLine 72 = .ok (.aload_n 0, 1) := by decide +kernel
theorem dX3_addLine_73 : decode cX3_addLine 73 = .ok (.iload_n 3, 1) := by decide +kernel
theorem dX3_addLine_74 : decode cX3_addLine 74 = .ok (.iload 7, 2) := by decide +kernel
theorem dX3_addLine_76 : decode cX3_addLine 76 = .ok (.invokevirtual 39, 3) := by decide +kernel
theorem dX3_addLine_79 : decode cX3_addLine 79 = .ok (.lmul, 1) := by decide +kernel
theorem dX3_addLine_80 : decode cX3_addLine 80 = .ok (.ladd, 1) := by decide +kernel
theorem dX3_addLine_81 : decode cX3_addLine 81 = .ok (.invokevirtual 35, 3) := by decide +kernel
theorem dX3_addLine_84 : decode cX3_addLine 84 = .ok (.iinc 7 1, 3) := by decide +kernel
theorem dX3_addLine_87 : decode cX3_addLine 87 = .ok (.goto (-67), 3) := by decide +kernel
theorem dX3_addLine_90 : decode cX3_addLine 90 = .ok (.return_, 1) := by decide +kernel
theorem dX3_countFilled_0 : decode cX3_countFilled 0 = .ok (.iconst 0, 1) := by decide +kernel
theorem dX3_countFilled_1 : decode cX3_countFilled 1 = .ok (.istore_n 1, 1) := by decide +kernel
theorem dX3_countFilled_2 : decode cX3_countFilled 2 = .ok (.iconst 0, 1) := by decide +kernel
theorem dX3_countFilled_3 : decode cX3_countFilled 3 = .ok (.istore_n 2, 1) := by decide +kernel
theorem dX3_countFilled_4 : decode cX3_countFilled 4 = .ok (.iload_n 2, 1) := by decide +kernel
theorem dX3_countFilled_5 : decode cX3_countFilled 5 = .ok (.aload_n 0, 1) := by decide +kernel
theorem dX3_countFilled_6 : decode cX3_countFilled 6 = .ok (.getfield 15, 3) := by decide +kernel
theorem dX3_countFilled_9 : decode cX3_countFilled 9 = .ok (.if_icmp .ge 39, 3) := by decide +kernel
theorem dX3_countFilled_12 : decode cX3_countFilled 12 = .ok (.iconst 0, 1) := by decide +kernel
theorem dX3_countFilled_13 : decode cX3_countFilled 13 = .ok (.istore_n 3, 1) := by decide +kernel
theorem dX3_countFilled_14 : decode cX3_countFilled 14 = .ok (.iload_n 3, 1) := by decide +kernel
theorem dX3_countFilled_15 : decode cX3_countFilled 15 = .ok (.aload_n 0, 1) := by decide +kernel
theorem dX3_countFilled_16 : decode cX3_countFilled 16 = .ok (.getfield 19, 3) := by decide +kernel
theorem dX3_countFilled_19 : decode cX3_countFilled 19 = .ok (.if_icmp .ge 23, 3) := by decide +kernel
theorem dX3_countFilled_22 : decode cX3_countFilled 22 = .ok (.aload_n 0, 1) := by decide +kernel
theorem dX3_countFilled_23 : decode cX3_countFilled 23 = .ok (.iload_n 2, 1) := by decide +kernel
theorem dX3_countFilled_24 : decode cX3_countFilled 24 = .ok (.iload_n 3, 1) := by decide +kernel
theorem dX3_countFilled_25 : decode cX3_countFilled 25 = .ok (.invokevirtual 39, 3) := by decide +kernel
theorem dX3_countFilled_28 : decode cX3_countFilled 28 = .ok (.lconst 0, 1) := by decide +kernel
theorem dX3_countFilled_29 : decode cX3_countFilled 29 = .ok (.lcmp, 1) := by decide +kernel
theorem dX3_countFilled_30 : decode cX3_countFilled 30 = .ok (.ifCond .eq 6, 3) := by decide +kernel
theorem dX3_countFilled_33 : decode cX3_countFilled 33 = .ok (.iinc 1 1, 3) := by decide +kernel
theorem dX3_countFilled_36 : decode cX3_countFilled 36 = .ok (.iinc 3 1, 3) := by decide +kernel
theorem dX3_countFilled_39 : decode cX3_countFilled 39 = .ok (.goto (-25), 3) := by decide +kernel
theorem dX3_countFilled_42 : decode cX3_countFilled 42 = .ok (.iinc 2 1, 3) := by decide +kernel
theorem dX3_countFilled_45 : decode cX3_countFilled 45 = .ok (.goto (-41), 3) := by decide +kernel
theorem dX3_countFilled_48 : decode cX3_countFilled 48 = .ok (.iload_n 1, 1) := by decide +kernel
theorem dX3_countFilled_49 : decode cX3_countFilled 49 = .ok (.ireturn, 1) := by decide +kernel
theorem dX3_countUnlike_0 : decode cX3_countUnlike 0 = .ok (.iconst 0, 1) := by decide +kernel
theorem dX3_countUnlike_1 : decode cX3_countUnlike 1 = .ok (.istore_n 2, 1) := by decide +kernel
theorem dX3_countUnlike_2 : decode cX3_countUnlike 2 = .ok (.iconst 0, 1) := by decide +kernel
theorem dX3_countUnlike_3 : decode cX3_countUnlike 3 = .ok (.istore_n 3, 1) := by decide +kernel
theorem dX3_countUnlike_4 : decode cX3_countUnlike 4 = .ok (.iload_n 3, 1) := by decide +kernel
theorem dX3_countUnlike_5 : decode cX3_countUnlike 5 = .ok (.aload_n 0, 1) := by decide +kernel
theorem dX3_countUnlike_6 : decode cX3_countUnlike 6 = .ok (.getfield 15, 3) := by decide +kernel
theorem dX3_countUnlike_9 : decode cX3_countUnlike 9 = .ok (.if_icmp .ge 48, 3) := by decide +kernel
theorem dX3_countUnlike_12 : decode cX3_countUnlike 12 = .ok (.iconst 0, 1) := by decide +kernel
theorem dX3_countUnlike_13 : decode cX3_countUnlike 13 = .ok (.istore 4, 2) := by decide +kernel
theorem dX3_countUnlike_15 : decode cX3_countUnlike 15 = .ok (.iload 4, 2) := by decide +kernel
theorem dX3_countUnlike_17 : decode cX3_countUnlike 17 = .ok (.aload_n 0, 1) := by decide +kernel
theorem dX3_countUnlike_18 : decode cX3_countUnlike 18 = .ok (.getfield 19, 3) := by decide +kernel
theorem dX3_countUnlike_21 : decode cX3_countUnlike 21 = .ok (.if_icmp .ge 30, 3) := by decide +kernel
theorem dX3_countUnlike_24 : decode cX3_countUnlike 24 = .ok (.aload_n 0, 1) := by decide +kernel
theorem dX3_countUnlike_25 : decode cX3_countUnlike 25 = .ok (.iload_n 3, 1) := by decide +kernel
theorem dX3_countUnlike_26 : decode cX3_countUnlike 26 = .ok (.iload 4, 2) := by decide +kernel
theorem dX3_countUnlike_28 : decode cX3_countUnlike 28 = .ok (.invokevirtual 39, 3) := by decide +kernel
theorem dX3_countUnlike_31 : decode cX3_countUnlike 31 = .ok (.aload_n 1, 1) := by decide +kernel
theorem dX3_countUnlike_32 : decode cX3_countUnlike 32 = .ok (.iload_n 3, 1) := by decide +kernel
theorem dX3_countUnlike_33 : decode cX3_countUnlike 33 = .ok (.iload 4, 2) := by decide +kernel
theorem dX3_countUnlike_35 : decode cX3_countUnlike 35 = .ok (.invokevirtual 39, 3) := by decide +kernel
theorem dX3_countUnlike_38 : decode cX3_countUnlike 38 = .ok (.lcmp, 1) := by decide +kernel
theorem dX3_countUnlike_39 : decode cX3_countUnlike 39 = .ok (.ifCond .eq 6, 3) := by decide +kernel
theorem dX3_countUnlike_42 : decode cX3_countUnlike 42 = .ok (.iinc 2 1, 3) := by decide +kernel
theorem dX3_countUnlike_45 : decode cX3_countUnlike 45 = .ok (.iinc 4 1, 3) := by decide +kernel
theorem dX3_countUnlike_48 : decode cX3_countUnlike 48 = .ok (.goto (-33), 3) := by decide +kernel
theorem dX3_countUnlike_51 : decode cX3_countUnlike 51 = .ok (.iinc 3 1, 3) := by decide +kernel
theorem dX3_countUnlike_54 : decode cX3_countUnlike 54 = .ok (.goto (-50), 3) := by decide +kernel
theorem dX3_countUnlike_57 : decode cX3_countUnlike 57 = .ok (.iload_n 2, 1) := by decide +kernel
theorem dX3_countUnlike_58 : decode cX3_countUnlike 58 = .ok (.ireturn, 1) := by decide +kernel
theorem dX3_isLike_0 : decode cX3_isLike 0 = .ok (.aload_n 0, 1) := by decide +kernel
theorem dX3_isLike_1 : decode cX3_isLike 1 = .ok (.getfield 15, 3) := by decide +kernel
theorem dX3_isLike_4 : decode cX3_isLike 4 = .ok (.aload_n 1, 1) := by decide +kernel
theorem dX3_isLike_5 : decode cX3_isLike 5 = .ok (.getfield 15, 3) := by decide +kernel
theorem dX3_isLike_8 : decode cX3_isLike 8 = .ok (.if_icmp .ne 26, 3) := by decide +kernel
theorem dX3_isLike_11 : decode cX3_isLike 11 = .ok (.aload_n 0, 1) := by decide +kernel
theorem dX3_isLike_12 : decode cX3_isLike 12 = .ok (.getfield 19, 3) := by decide +kernel
theorem dX3_isLike_15 : decode cX3_isLike 15 = .ok (.aload_n 1, 1) := by decide +kernel
theorem dX3_isLike_16 : decode cX3_isLike 16 = .ok (.getfield 19, 3) := by decide +kernel
theorem dX3_isLike_19 : decode cX3_isLike 19 = .ok (.if_icmp .ne 15, 3) := by decide +kernel
theorem dX3_isLike_22 : decode cX3_isLike 22 = .ok (.aload_n 0, 1) := by decide +kernel
theorem dX3_isLike_23 : decode cX3_isLike 23 = .ok (.aload_n 1, 1) := by decide +kernel
theorem dX3_isLike_24 : decode cX3_isLike 24 = .ok (.invokevirtual 43, 3) := by decide +kernel
theorem dX3_isLike_27 : decode cX3_isLike 27 = .ok (.ifCond .ne 7, 3) := by decide +kernel
theorem dX3_isLike_30 : decode cX3_isLike 30 = .ok (.iconst 1, 1) := by decide +kernel
theorem dX3_isLike_31 : decode cX3_isLike 31 = .ok (.goto 4, 3) := by decide +kernel
theorem dX3_isLike_34 : decode cX3_isLike 34 = .ok (.iconst 0, 1) := by decide +kernel
theorem dX3_isLike_35 : decode cX3_isLike 35 = .ok (.ireturn, 1) := by decide +kernel
theorem dX3_isWithin_0 : decode cX3_isWithin 0 = .ok (.iconst 0, 1) := by decide +kernel
theorem dX3_isWithin_1 : decode cX3_isWithin 1 = .ok (.istore_n 3, 1) := by decide +kernel
theorem dX3_isWithin_2 : decode cX3_isWithin 2 = .ok (.iload_n 3, 1) := by decide +kernel
theorem dX3_isWithin_3 : decode cX3_isWithin 3 = .ok (.aload_n 0, 1) := by decide +kernel
theorem dX3_isWithin_4 : decode cX3_isWithin 4 = .ok (.getfield 15, 3) := by decide +kernel
theorem dX3_isWithin_7 : decode cX3_isWithin 7 = .ok (.if_icmp .ge 44, 3) := by decide +kernel
theorem dX3_isWithin_10 : decode cX3_isWithin 10 = .ok (.iconst 0, 1) := by decide +kernel
theorem dX3_isWithin_11 : decode cX3_isWithin 11 = .ok (.istore 4, 2) := by decide +kernel
theorem dX3_isWithin_13 : decode cX3_isWithin 13 = .ok (.iload 4, 2) := by decide +kernel
theorem dX3_isWithin_15 : decode cX3_isWithin 15 = .ok (.aload_n 0, 1) := by decide +kernel
theorem dX3_isWithin_16 : decode cX3_isWithin 16 = .ok (.getfield 19, 3) := by decide +kernel
theorem dX3_isWithin_19 : decode cX3_isWithin 19 = .ok (.if_icmp .ge 26, 3) := by decide +kernel
theorem dX3_isWithin_22 : decode cX3_isWithin 22 = .ok (.aload_n 0, 1) := by decide +kernel
theorem dX3_isWithin_23 : decode cX3_isWithin 23 = .ok (.iload_n 3, 1) := by decide +kernel
theorem dX3_isWithin_24 : decode cX3_isWithin 24 = .ok (.iload 4, 2) := by decide +kernel
theorem dX3_isWithin_26 : decode cX3_isWithin 26 = .ok (.invokevirtual 39, 3) := by decide +kernel
theorem dX3_isWithin_29 : decode cX3_isWithin 29 = .ok (.invokestatic 47, 3) := by decide +kernel
theorem dX3_isWithin_32 : decode cX3_isWithin 32 = .ok (.lload_n 1, 1) := by decide +kernel
theorem dX3_isWithin_33 : decode cX3_isWithin 33 = .ok (.lcmp, 1) := by decide +kernel
theorem dX3_isWithin_34 : decode cX3_isWithin 34 = .ok (.ifCond .le 5, 3) := by decide +kernel
theorem dX3_isWithin_37 : decode cX3_isWithin 37 = .ok (.iconst 0, 1) := by decide +kernel
theorem dX3_isWithin_38 : decode cX3_isWithin 38 = .ok (.ireturn, 1) := by decide +kernel
theorem dX3_isWithin_39 : decode cX3_isWithin 39 = .ok (.iinc 4 1, 3) := by decide +kernel
theorem dX3_isWithin_42 : decode cX3_isWithin 42 = .ok (.goto (-29), 3) := by decide +kernel
theorem dX3_isWithin_45 : decode cX3_isWithin 45 = .ok (.iinc 3 1, 3) := by decide +kernel
theorem dX3_isWithin_48 : decode cX3_isWithin 48 = .ok (.goto (-46), 3) := by decide +kernel
theorem dX3_isWithin_51 : decode cX3_isWithin 51 = .ok (.iconst 1, 1) := by decide +kernel
theorem dX3_isWithin_52 : decode cX3_isWithin 52 = .ok (.ireturn, 1) := by decide +kernel
theorem dX3_mix_0 : decode cX3_mix 0 = .ok (.lload_n 1, 1) := by decide +kernel
theorem dX3_mix_1 : decode cX3_mix 1 = .ok (.ldc2_w 51, 3) := by decide +kernel
theorem dX3_mix_4 : decode cX3_mix 4 = .ok (.lmul, 1) := by decide +kernel
theorem dX3_mix_5 : decode cX3_mix 5 = .ok (.aload_n 0, 1) := by decide +kernel
theorem dX3_mix_6 : decode cX3_mix 6 = .ok (.getfield 15, 3) := by decide +kernel
theorem dX3_mix_9 : decode cX3_mix 9 = .ok (.i2l, 1) := by decide +kernel
theorem dX3_mix_10 : decode cX3_mix 10 = .ok (.ladd, 1) := by decide +kernel
theorem dX3_mix_11 : decode cX3_mix 11 = .ok (.ldc2_w 51, 3) := by decide +kernel
theorem dX3_mix_14 : decode cX3_mix 14 = .ok (.lmul, 1) := by decide +kernel
theorem dX3_mix_15 : decode cX3_mix 15 = .ok (.aload_n 0, 1) := by decide +kernel
theorem dX3_mix_16 : decode cX3_mix 16 = .ok (.getfield 19, 3) := by decide +kernel
theorem dX3_mix_19 : decode cX3_mix 19 = .ok (.i2l, 1) := by decide +kernel
theorem dX3_mix_20 : decode cX3_mix 20 = .ok (.ladd, 1) := by decide +kernel
theorem dX3_mix_21 : decode cX3_mix 21 = .ok (.lstore_n 3, 1) := by decide +kernel
theorem dX3_mix_22 : decode cX3_mix 22 = .ok (.iconst 0, 1) := by decide +kernel
theorem dX3_mix_23 : decode cX3_mix 23 = .ok (.istore 5, 2) := by decide +kernel
theorem dX3_mix_25 : decode cX3_mix 25 = .ok (.iload 5, 2) := by decide +kernel
theorem dX3_mix_27 : decode cX3_mix 27 = .ok (.aload_n 0, 1) := by decide +kernel
theorem dX3_mix_28 : decode cX3_mix 28 = .ok (.getfield 15, 3) := by decide +kernel
theorem dX3_mix_31 : decode cX3_mix 31 = .ok (.if_icmp .ge 42, 3) := by decide +kernel
theorem dX3_mix_34 : decode cX3_mix 34 = .ok (.iconst 0, 1) := by decide +kernel
theorem dX3_mix_35 : decode cX3_mix 35 = .ok (.istore 6, 2) := by decide +kernel
theorem dX3_mix_37 : decode cX3_mix 37 = .ok (.iload 6, 2) := by decide +kernel
theorem dX3_mix_39 : decode cX3_mix 39 = .ok (.aload_n 0, 1) := by decide +kernel
theorem dX3_mix_40 : decode cX3_mix 40 = .ok (.getfield 19, 3) := by decide +kernel
theorem dX3_mix_43 : decode cX3_mix 43 = .ok (.if_icmp .ge 24, 3) := by decide +kernel
theorem dX3_mix_46 : decode cX3_mix 46 = .ok (.lload_n 3, 1) := by decide +kernel
theorem dX3_mix_47 : decode cX3_mix 47 = .ok (.ldc2_w 51, 3) := by decide +kernel
theorem dX3_mix_50 : decode cX3_mix 50 = .ok (.lmul, 1) := by decide +kernel
theorem dX3_mix_51 : decode cX3_mix 51 = .ok (.aload_n 0, 1) := by decide +kernel
theorem dX3_mix_52 : decode cX3_mix 52 = .ok (.iload 5, 2) := by decide +kernel
theorem dX3_mix_54 : decode cX3_mix 54 = .ok (.iload 6, 2) := by decide +kernel
theorem dX3_mix_56 : decode cX3_mix 56 = .ok (.invokevirtual 39, 3) := by decide +kernel
theorem dX3_mix_59 : decode cX3_mix 59 = .ok (.ladd, 1) := by decide +kernel
theorem dX3_mix_60 : decode cX3_mix 60 = .ok (.lstore_n 3, 1) := by decide +kernel
theorem dX3_mix_61 : decode cX3_mix 61 = .ok (.iinc 6 1, 3) := by decide +kernel
theorem dX3_mix_64 : decode cX3_mix 64 = .ok (.goto (-27), 3) := by decide +kernel
theorem dX3_mix_67 : decode cX3_mix 67 = .ok (.iinc 5 1, 3) := by decide +kernel
theorem dX3_mix_70 : decode cX3_mix 70 = .ok (.goto (-45), 3) := by decide +kernel
theorem dX3_mix_73 : decode cX3_mix 73 = .ok (.lload_n 3, 1) := by decide +kernel
theorem dX3_mix_74 : decode cX3_mix 74 = .ok (.lreturn, 1) := by decide +kernel
theorem dX4_init_0 : decode cX4_init 0 = .ok (.aload_n 0, 1) := by decide +kernel
theorem dX4_init_1 : decode cX4_init 1 = .ok (.invokespecial 3, 3) := by decide +kernel
theorem dX4_init_4 : decode cX4_init 4 = .ok (.aload_n 0, 1) := by decide +kernel
theorem dX4_init_5 : decode cX4_init 5 = .ok (.new 9, 3) := by decide +kernel
theorem dX4_init_8 : decode cX4_init 8 = .ok (.dup, 1) := by decide +kernel
theorem dX4_init_9 : decode cX4_init 9 = .ok (.invokespecial 11, 3) := by decide +kernel
theorem dX4_init_12 : decode cX4_init 12 = .ok (.putfield 12, 3) := by decide +kernel
theorem dX4_init_15 : decode cX4_init 15 = .ok (.aload_n 0, 1) := by decide +kernel
theorem dX4_init_16 : decode cX4_init 16 = .ok (.new 9, 3) := by decide +kernel
theorem dX4_init_19 : decode cX4_init 19 = .ok (.dup, 1) := by decide +kernel
theorem dX4_init_20 : decode cX4_init 20 = .ok (.invokespecial 11, 3) := by decide +kernel
theorem dX4_init_23 : decode cX4_init 23 = .ok (.putfield 18, 3) := by decide +kernel
theorem dX4_init_26 : decode cX4_init 26 = .ok (.return_, 1) := by decide +kernel
theorem dX4_walk_0 : decode cX4_walk 0 = .ok (.aload_n 0, 1) := by decide +kernel
theorem dX4_walk_1 : decode cX4_walk 1 = .ok (.getfield 12, 3) := by decide +kernel
theorem dX4_walk_4 : decode cX4_walk 4 = .ok (.aload_n 1, 1) := by decide +kernel
theorem dX4_walk_5 : decode cX4_walk 5 = .ok (.invokevirtual 21, 3) := by decide +kernel
theorem dX4_walk_8 : decode cX4_walk 8 = .ok (.aload_n 0, 1) := by decide +kernel
theorem dX4_walk_9 : decode cX4_walk 9 = .ok (.getfield 18, 3) := by decide +kernel
theorem dX4_walk_12 : decode cX4_walk 12 = .ok (.aload_n 1, 1) := by decide +kernel
theorem dX4_walk_13 : decode cX4_walk 13 = .ok (.getfield 25, 3) := by decide +kernel
theorem dX4_walk_16 : decode cX4_walk 16 = .ok (.invokevirtual 29, 3) := by decide +kernel
theorem dX4_walk_19 : decode cX4_walk 19 = .ok (.aload_n 0, 1) := by decide +kernel
theorem dX4_walk_20 : decode cX4_walk 20 = .ok (.iconst 0, 1) := by decide +kernel
theorem dX4_walk_21 : decode cX4_walk 21 = .ok (.putfield 33, 3) := by decide +kernel
theorem dX4_walk_24 : decode cX4_walk 24 = .ok (.iconst 0, 1) := by decide +kernel
theorem dX4_walk_25 : decode cX4_walk 25 = .ok (.istore_n 2, 1) := by decide +kernel
theorem dX4_walk_26 : decode cX4_walk 26 = .ok (.iconst 0, 1) := by decide +kernel
theorem dX4_walk_27 : decode cX4_walk 27 = .ok (.istore_n 3, 1) := by decide +kernel
theorem dX4_walk_28 : decode cX4_walk 28 = .ok (.iload_n 3, 1) := by decide +kernel
theorem dX4_walk_29 : decode cX4_walk 29 = .ok (.aload_n 0, 1) := by decide +kernel
theorem dX4_walk_30 : decode cX4_walk 30 = .ok (.getfield 12, 3) := by decide +kernel
theorem dX4_walk_33 : decode cX4_walk 33 = .ok (.getfield 37, 3) := by decide +kernel
theorem dX4_walk_36 : decode cX4_walk 36 = .ok (.if_icmp .ge 39, 3) := by decide +kernel
theorem dX4_walk_39 : decode cX4_walk 39 = .ok (.iload_n 2, 1) := by decide +kernel
theorem dX4_walk_40 : decode cX4_walk 40 = .ok (.aload_n 0, 1) := by decide +kernel
theorem dX4_walk_41 : decode cX4_walk 41 = .ok (.getfield 12, 3) := by decide +kernel
theorem dX4_walk_44 : decode cX4_walk 44 = .ok (.getfield 25, 3) := by decide +kernel
theorem dX4_walk_47 : decode cX4_walk 47 = .ok (.if_icmp .ge 28, 3) := by decide +kernel
theorem dX4_walk_50 : decode cX4_walk 50 = .ok (.aload_n 0, 1) := by decide +kernel
theorem dX4_walk_51 : decode cX4_walk 51 = .ok (.getfield 33, 3) := by decide +kernel
theorem dX4_walk_54 : decode cX4_walk 54 = .ok (.ifCond .ne 21, 3) := by decide +kernel
theorem dX4_walk_57 : decode cX4_walk 57 = .ok (.aload_n 0, 1) := by decide +kernel
theorem dX4_walk_58 : decode cX4_walk 58 = .ok (.iload_n 2, 1) := by decide +kernel
theorem dX4_walk_59 : decode cX4_walk 59 = .ok (.iload_n 3, 1) := by decide +kernel
theorem dX4_walk_60 : decode cX4_walk 60 = .ok (.invokevirtual 40, 3) := by decide +kernel
theorem dX4_walk_63 : decode cX4_walk 63 = .ok (.ifCond .eq 6, 3) := by decide +kernel
theorem dX4_walk_66 : decode cX4_walk 66 = .ok (.iinc 2 1, 3) := by decide +kernel
theorem dX4_walk_69 : decode cX4_walk 69 = .ok (.iinc 3 1, 3) := by decide +kernel
theorem dX4_walk_72 : decode cX4_walk 72 = .ok (.goto (-44), 3) := by decide +kernel
theorem dX4_walk_75 : decode cX4_walk 75 = .ok (.return_, 1) := by decide +kernel
theorem dX4_clearColumn_0 : decode cX4_clearColumn 0 = .ok (.iconst 0, 1) := by decide +kernel
theorem dX4_clearColumn_1 : decode cX4_clearColumn 1 = .ok (.istore_n 3, 1) := by decide +kernel
theorem dX4_clearColumn_2 : decode cX4_clearColumn 2 = .ok (.iload_n 3, 1) := by decide +kernel
theorem dX4_clearColumn_3 : decode cX4_clearColumn 3 = .ok (.ldc 44, 2) := by decide +kernel
theorem dX4_clearColumn_5 : decode cX4_clearColumn 5 = .ok (.if_icmp .ge 125, 3) := by decide +kernel
theorem dX4_clearColumn_8 : decode cX4_clearColumn 8 = .ok (.aload_n 0, 1) := by decide +kernel
theorem dX4_clearColumn_9 : decode cX4_clearColumn 9 = .ok (.getfield 33, 3) := by decide +kernel
theorem dX4_clearColumn_12 : decode cX4_clearColumn 12 = .ok (.ifCond .ne 118, 3) := by decide +kernel
theorem dX4_clearColumn_15 : decode cX4_clearColumn 15 = .ok (.aload_n 0, 1) := by decide +kernel
theorem dX4_clearColumn_16 : decode cX4_clearColumn 16 = .ok (.iload_n 1, 1) := by decide +kernel
theorem dX4_clearColumn_17 : decode cX4_clearColumn 17 = .ok (.iload_n 2, 1) := by decide +kernel
theorem dX4_clearColumn_18 : decode cX4_clearColumn 18 = .ok (.invokevirtual 45, 3) := by decide +kernel
theorem dX4_clearColumn_21 : decode cX4_clearColumn 21 = .ok (.istore 4, 2) := by decide +kernel
theorem dX4_clearColumn_23 : decode cX4_clearColumn 23 = .ok (.iload 4, 2) := by decide +kernel
theorem dX4_clearColumn_25 : decode cX4_clearColumn 25 = .ok (.ifCond .ge 5, 3) := by decide +kernel
theorem dX4_clearColumn_28 : decode cX4_clearColumn 28 = .ok (.iconst 0, 1) := by decide +kernel
theorem dX4_clearColumn_29 : decode cX4_clearColumn 29 = .ok (.ireturn, 1) := by decide +kernel
theorem dX4_clearColumn_30 : decode cX4_clearColumn 30 = .ok (.aload_n 0, 1) := by decide +kernel
theorem dX4_clearColumn_31 : decode cX4_clearColumn 31 = .ok (.iload 4, 2) := by decide +kernel
theorem dX4_clearColumn_33 : decode cX4_clearColumn 33 = .ok (.iload_n 1, 1) := by decide +kernel
theorem dX4_clearColumn_34 : decode cX4_clearColumn 34 = .ok (.iload_n 2, 1) := by decide +kernel
theorem dX4_clearColumn_35 : decode cX4_clearColumn 35 = .ok (.invokevirtual 49, 3) := by decide +kernel
theorem dX4_clearColumn_38 : decode cX4_clearColumn 38 = .ok (.iload_n 1, 1) := by decide +kernel
theorem dX4_clearColumn_39 : decode cX4_clearColumn 39 = .ok (.iconst 1, 1) := by decide +kernel
theorem dX4_clearColumn_40 : decode cX4_clearColumn 40 = .ok (.iadd, 1) := by decide +kernel
theorem dX4_clearColumn_41 : decode cX4_clearColumn 41 = .ok (.istore 5, 2) := by decide +kernel
theorem dX4_clearColumn_43 : decode cX4_clearColumn 43 = .ok (.iload 5, 2) := by decide +kernel
theorem dX4_clearColumn_45 : decode cX4_clearColumn 45 = .ok (.aload_n 0, 1) := by decide +kernel
theorem dX4_clearColumn_46 : decode cX4_clearColumn 46 = .ok (.getfield 12, 3) := by decide +kernel
theorem dX4_clearColumn_49 : decode cX4_clearColumn 49 = .ok (.getfield 25, 3) := by decide +kernel
theorem dX4_clearColumn_52 : decode cX4_clearColumn 52 = .ok (.if_icmp .ge 24, 3) := by decide +kernel
theorem dX4_clearColumn_55 : decode cX4_clearColumn 55 = .ok (.aload_n 0, 1) := by decide +kernel
theorem dX4_clearColumn_56 : decode cX4_clearColumn 56 = .ok (.getfield 33, 3) := by decide +kernel
theorem dX4_clearColumn_59 : decode cX4_clearColumn 59 = .ok (.ifCond .ne 17, 3) := by decide +kernel
theorem dX4_clearColumn_62 : decode cX4_clearColumn 62 = .ok (.aload_n 0, 1) := by decide +kernel
theorem dX4_clearColumn_63 : decode cX4_clearColumn 63 = .ok (.iload 5, 2) := by decide +kernel
theorem dX4_clearColumn_65 : decode cX4_clearColumn 65 = .ok (.iload_n 1, 1) := by decide +kernel
theorem dX4_clearColumn_66 : decode cX4_clearColumn 66 = .ok (.iload_n 2, 1) := by decide +kernel
theorem dX4_clearColumn_67 : decode cX4_clearColumn 67 = .ok (.invokevirtual 53, 3) := by decide +kernel
theorem dX4_clearColumn_70 : decode cX4_clearColumn 70 = .ok (.iinc 5 1, 3) := by decide +kernel
theorem dX4_clearColumn_73 : decode cX4_clearColumn 73 = .ok (.goto (-30), 3) := by decide +kernel
theorem dX4_clearColumn_76 : decode cX4_clearColumn 76 = .ok (.aload_n 0, 1) := by decide +kernel
theorem dX4_clearColumn_77 : decode cX4_clearColumn 77 = .ok (.getfield 33, 3) := by decide +kernel
theorem dX4_clearColumn_80 : decode cX4_clearColumn 80 = .ok (.ifCond .ne 44, 3) := by decide +kernel
theorem dX4_clearColumn_83 : decode cX4_clearColumn 83 = .ok (.aload_n 0, 1) := by decide +kernel
theorem dX4_clearColumn_84 : decode cX4_clearColumn 84 = .ok (.iload_n 1, 1) := by decide +kernel
theorem dX4_clearColumn_85 : decode cX4_clearColumn 85 = .ok (.iload_n 2, 1) := by decide +kernel
theorem dX4_clearColumn_86 : decode cX4_clearColumn 86 = .ok (.invokevirtual 56, 3) := by decide +kernel
theorem dX4_clearColumn_89 : decode cX4_clearColumn 89 = .ok (.ifCond .eq 35, 3) := by decide +kernel
theorem dX4_clearColumn_92 : decode cX4_clearColumn 92 = .ok (.iconst 0, 1) := by decide +kernel
theorem dX4_clearColumn_93 : decode cX4_clearColumn 93 = .ok (.istore 5, 2) := by decide +kernel
theorem dX4_clearColumn_95 : decode cX4_clearColumn 95 = .ok (.iload 5, 2) := by decide +kernel
theorem dX4_clearColumn_97 : decode cX4_clearColumn 97 = .ok (.iload_n 1, 1) := by decide +kernel
theorem dX4_clearColumn_98 : decode cX4_clearColumn 98 = .ok (.if_icmp .ge 24, 3) := by decide +kernel
theorem dX4_clearColumn_101 : decode cX4_clearColumn 101 = .ok (.aload_n 0, 1) := by decide +kernel
theorem dX4_clearColumn_102 : decode cX4_clearColumn 102 = .ok (.getfield 33, 3) := by decide +kernel
theorem dX4_clearColumn_105 : decode cX4_clearColumn 105 = .ok (.ifCond .ne 17, 3) := by decide +kernel
theorem dX4_clearColumn_108 : decode cX4_clearColumn 108 = .ok (.aload_n 0, 1) := by decide +kernel
theorem dX4_clearColumn_109 : decode cX4_clearColumn 109 = .ok (.iload 5, 2) := by decide +kernel
theorem dX4_clearColumn_111 : decode cX4_clearColumn 111 = .ok (.iload_n 1, 1) := by decide +kernel
theorem dX4_clearColumn_112 : decode cX4_clearColumn 112 = .ok (.iload_n 2, 1) := by decide +kernel
theorem dX4_clearColumn_113 : decode cX4_clearColumn 113 = .ok (.invokevirtual 53, 3) := by decide +kernel
theorem dX4_clearColumn_116 : decode cX4_clearColumn 116 = .ok (.iinc 5 1, 3) := by decide +kernel
theorem dX4_clearColumn_119 : decode cX4_clearColumn 119 = .ok (.goto (-24), 3) := by decide +kernel
theorem dX4_clearColumn_122 : decode cX4_clearColumn 122 = .ok (.iconst 1, 1) := by decide +kernel
theorem dX4_clearColumn_123 : decode cX4_clearColumn 123 = .ok (.ireturn, 1) := by decide +kernel
theorem dX4_clearColumn_124 : decode cX4_clearColumn 124 = .ok (.iinc 3 1, 3) := by decide +kernel
theorem dX4_clearColumn_127 : decode cX4_clearColumn 127 = .ok (.goto (-125), 3) := by decide +kernel
theorem dX4_clearColumn_130 : decode cX4_clearColumn 130 = .ok (.iconst 0, 1) := by decide +kernel
theorem dX4_clearColumn_131 : decode cX4_clearColumn 131 = .ok (.ireturn, 1) := by decide +kernel
theorem dX4_findLeastRow_0 : decode cX4_findLeastRow 0 = .ok (.iconst (-1), 1) := by decide +kernel
theorem dX4_findLeastRow_1 : decode cX4_findLeastRow 1 = .ok (.istore_n 3, 1) := by decide +kernel
theorem dX4_findLeastRow_2 : decode cX4_findLeastRow 2 = .ok (.iload_n 1, 1) := by decide +kernel
theorem dX4_findLeastRow_3 : decode cX4_findLeastRow 3 = .ok (.istore 4, 2) := by decide +kernel
theorem dX4_findLeastRow_5 : decode cX4_findLeastRow 5 = .ok (.iload 4, 2) := by decide +kernel
theorem dX4_findLeastRow_7 : decode cX4_findLeastRow 7 = .ok (.aload_n 0, 1) := by decide +kernel
theorem dX4_findLeastRow_8 : decode cX4_findLeastRow 8 = .ok (.getfield 12, 3) := by decide +kernel
theorem dX4_findLeastRow_11 : decode cX4_findLeastRow 11 = .ok (.getfield 25, 3) := by decide +kernel
theorem dX4_findLeastRow_14 : decode cX4_findLeastRow 14 = .ok (.if_icmp .ge 56, 3) := by decide +kernel
theorem dX4_findLeastRow_17 : decode cX4_findLeastRow 17 = .ok (.aload_n 0, 1) := by decide +kernel
theorem dX4_findLeastRow_18 : decode cX4_findLeastRow 18 = .ok (.getfield 12, 3) := by decide +kernel
theorem dX4_findLeastRow_21 : decode cX4_findLeastRow 21 = .ok (.iload 4, 2) := by decide +kernel
theorem dX4_findLeastRow_23 : decode cX4_findLeastRow 23 = .ok (.iload_n 2, 1) := by decide +kernel
theorem dX4_findLeastRow_24 : decode cX4_findLeastRow 24 = .ok (.invokevirtual 59, 3) := by decide +kernel
theorem dX4_findLeastRow_27 : decode cX4_findLeastRow 27 = .ok (.invokestatic 63, 3) := by decide +kernel
theorem dX4_findLeastRow_30 : decode cX4_findLeastRow 30 = .ok (.lstore 5, 2) := by decide +kernel
theorem dX4_findLeastRow_32 : decode cX4_findLeastRow 32 = .ok (.lload 5, 2) := by decide +kernel
theorem dX4_findLeastRow_34 : decode cX4_findLeastRow 34 = .ok (.lconst 0, 1) := by decide +kernel
theorem dX4_findLeastRow_35 : decode cX4_findLeastRow 35 = .ok (.lcmp, 1) := by decide +kernel
theorem dX4_findLeastRow_36 : decode cX4_findLeastRow 36 = .ok (.ifCond .eq 28, 3) := by decide +kernel
theorem dX4_findLeastRow_39 : decode cX4_findLeastRow 39 = .ok (.iload_n 3, 1) := by decide +kernel
theorem dX4_findLeastRow_40 : decode cX4_findLeastRow 40 = .ok (.ifCond .lt 21, 3) := by decide +kernel
theorem dX4_findLeastRow_43 : decode cX4_findLeastRow 43 = .ok (.lload 5, 2) := by decide +kernel
theorem dX4_findLeastRow_45 : decode cX4_findLeastRow 45 = .ok (.aload_n 0, 1) := by decide +kernel
theorem dX4_findLeastRow_46 : decode cX4_findLeastRow 46 = .ok (.getfield 12, 3) := by decide +kernel
theorem dX4_findLeastRow_49 : decode cX4_findLeastRow 49 = .ok (.iload_n 3, 1) := by decide +kernel
theorem dX4_findLeastRow_50 : decode cX4_findLeastRow 50 = .ok (.iload_n 2, 1) := by decide +kernel
theorem dX4_findLeastRow_51 : decode cX4_findLeastRow 51 = .ok (.invokevirtual 59, 3) := by decide +kernel
theorem dX4_findLeastRow_54 : decode cX4_findLeastRow 54 = .ok (.invokestatic 63, 3) := by decide +kernel
theorem dX4_findLeastRow_57 : decode cX4_findLeastRow 57 = .ok (.lcmp, 1) := by decide +kernel
theorem dX4_findLeastRow_58 : decode cX4_findLeastRow 58 = .ok (.ifCond .ge 6, 3) := by decide +kernel
theorem dX4_findLeastRow_61 : decode cX4_findLeastRow 61 = .ok (.iload 4, 2) := by decide +kernel
theorem dX4_findLeastRow_63 : decode cX4_findLeastRow 63 = .ok (.istore_n 3, 1) := by decide +kernel
theorem dX4_findLeastRow_64 : decode cX4_findLeastRow 64 = .ok (.iinc 4 1, 3) := by decide +kernel
theorem dX4_findLeastRow_67 : decode cX4_findLeastRow 67 = .ok (.goto (-62), 3) := by decide +kernel
theorem dX4_findLeastRow_70 : decode cX4_findLeastRow 70 = .ok (.iload_n 3, 1) := by decide +kernel
theorem dX4_findLeastRow_71 : decode cX4_findLeastRow 71 = .ok (.ireturn, 1) := by decide +kernel
theorem dX4_bring_0 : decode cX4_bring 0 = .ok (.iload_n 1, 1) := by decide +kernel
theorem dX4_bring_1 : decode cX4_bring 1 = .ok (.iload_n 2, 1) := by decide +kernel
theorem dX4_bring_2 : decode cX4_bring 2 = .ok (.if_icmp .eq 23, 3) := by decide +kernel
theorem dX4_bring_5 : decode cX4_bring 5 = .ok (.aload_n 0, 1) := by decide +kernel
theorem dX4_bring_6 : decode cX4_bring 6 = .ok (.getfield 12, 3) := by decide +kernel
theorem dX4_bring_9 : decode cX4_bring 9 = .ok (.iconst 0, 1) := by decide +kernel
theorem dX4_bring_10 : decode cX4_bring 10 = .ok (.iload_n 1, 1) := by decide +kernel
theorem dX4_bring_11 : decode cX4_bring 11 = .ok (.iload_n 2, 1) := by decide +kernel
theorem dX4_bring_12 : decode cX4_bring 12 = .ok (.invokevirtual 69, 3) := by decide +kernel
theorem dX4_bring_15 : decode cX4_bring 15 = .ok (.aload_n 0, 1) := by decide +kernel
theorem dX4_bring_16 : decode cX4_bring 16 = .ok (.getfield 18, 3) := by decide +kernel
theorem dX4_bring_19 : decode cX4_bring 19 = .ok (.iconst 0, 1) := by decide +kernel
theorem dX4_bring_20 : decode cX4_bring 20 = .ok (.iload_n 1, 1) := by decide +kernel
theorem dX4_bring_21 : decode cX4_bring 21 = .ok (.iload_n 2, 1) := by decide +kernel
theorem dX4_bring_22 : decode cX4_bring 22 = .ok (.invokevirtual 69, 3) := by decide +kernel
theorem dX4_bring_25 : decode cX4_bring 25 = .ok (.aload_n 0, 1) := by decide +kernel
theorem dX4_bring_26 : decode cX4_bring 26 = .ok (.getfield 12, 3) := by decide +kernel
theorem dX4_bring_29 : decode cX4_bring 29 = .ok (.iload_n 2, 1) := by decide +kernel
theorem dX4_bring_30 : decode cX4_bring 30 = .ok (.iload_n 3, 1) := by decide +kernel
theorem dX4_bring_31 : decode cX4_bring 31 = .ok (.invokevirtual 59, 3) := by decide +kernel
theorem dX4_bring_34 : decode cX4_bring 34 = .ok (.lconst 0, 1) := by decide +kernel
theorem dX4_bring_35 : decode cX4_bring 35 = .ok (.lcmp, 1) := by decide +kernel
theorem dX4_bring_36 : decode cX4_bring 36 = .ok (.ifCond .ge 21, 3) := by decide +kernel
theorem dX4_bring_39 : decode cX4_bring 39 = .ok (.aload_n 0, 1) := by decide +kernel
theorem dX4_bring_40 : decode cX4_bring 40 = .ok (.getfield 12, 3) := by decide +kernel
theorem dX4_bring_43 : decode cX4_bring 43 = .ok (.iconst 0, 1) := by decide +kernel
theorem dX4_bring_44 : decode cX4_bring 44 = .ok (.iload_n 2, 1) := by decide +kernel
theorem dX4_bring_45 : decode cX4_bring 45 = .ok (.invokevirtual 73, 3) := by decide +kernel
theorem dX4_bring_48 : decode cX4_bring 48 = .ok (.aload_n 0, 1) := by decide +kernel
theorem dX4_bring_49 : decode cX4_bring 49 = .ok (.getfield 18, 3) := by decide +kernel
theorem dX4_bring_52 : decode cX4_bring 52 = .ok (.iconst 0, 1) := by decide +kernel
theorem dX4_bring_53 : decode cX4_bring 53 = .ok (.iload_n 2, 1) := by decide +kernel
theorem dX4_bring_54 : decode cX4_bring 54 = .ok (.invokevirtual 73, 3) := by decide +kernel
theorem dX4_bring_57 : decode cX4_bring 57 = .ok (.return_, 1) := by decide +kernel
theorem dX4_takeOff_0 : decode cX4_takeOff 0 = .ok (.aload_n 0, 1) := by decide +kernel
theorem dX4_takeOff_1 : decode cX4_takeOff 1 = .ok (.getfield 12, 3) := by decide +kernel
theorem dX4_takeOff_4 : decode cX4_takeOff 4 = .ok (.iload_n 1, 1) := by decide +kernel
theorem dX4_takeOff_5 : decode cX4_takeOff 5 = .ok (.iload_n 3, 1) := by decide +kernel
theorem dX4_takeOff_6 : decode cX4_takeOff 6 = .ok (.invokevirtual 59, 3) := by decide +kernel
theorem dX4_takeOff_9 : decode cX4_takeOff 9 = .ok (.aload_n 0, 1) := by decide +kernel
theorem dX4_takeOff_10 : decode cX4_takeOff 10 = .ok (.getfield 12, 3) := by decide +kernel
theorem dX4_takeOff_13 : decode cX4_takeOff 13 = .ok (.iload_n 2, 1) := by decide +kernel
theorem dX4_takeOff_14 : decode cX4_takeOff 14 = .ok (.iload_n 3, 1) := by decide +kernel
theorem dX4_takeOff_15 : decode cX4_takeOff 15 = .ok (.invokevirtual 59, 3) := by decide +kernel
theorem dX4_takeOff_18 : decode cX4_takeOff 18 = .ok (.invokestatic 77, 3) := by decide +kernel
theorem dX4_takeOff_21 : decode cX4_takeOff 21 = .ok (.lstore 4, 2) := by decide +kernel
theorem dX4_takeOff_23 : decode cX4_takeOff 23 = .ok (.aload_n 0, 1) := by decide +kernel
theorem dX4_takeOff_24 : decode cX4_takeOff 24 = .ok (.getfield 12, 3) := by decide +kernel
theorem dX4_takeOff_27 : decode cX4_takeOff 27 = .ok (.iconst 0, 1) := by decide +kernel
theorem dX4_takeOff_28 : decode cX4_takeOff 28 = .ok (.iload_n 1, 1) := by decide +kernel
theorem dX4_takeOff_29 : decode cX4_takeOff 29 = .ok (.iload_n 2, 1) := by decide +kernel
theorem dX4_takeOff_30 : decode cX4_takeOff 30 = .ok (.lload 4, 2) := by decide +kernel
theorem dX4_takeOff_32 : decode cX4_takeOff 32 = .ok (.lneg, 1) := by decide +kernel
theorem dX4_takeOff_33 : decode cX4_takeOff 33 = .ok (.invokevirtual 81, 3) := by decide +kernel
theorem dX4_takeOff_36 : decode cX4_takeOff 36 = .ok (.aload_n 0, 1) := by decide +kernel
theorem dX4_takeOff_37 : decode cX4_takeOff 37 = .ok (.getfield 18, 3) := by decide +kernel
theorem dX4_takeOff_40 : decode cX4_takeOff 40 = .ok (.iconst 0, 1) := by decide +kernel
theorem dX4_takeOff_41 : decode cX4_takeOff 41 = .ok (.iload_n 1, 1) := by decide +kernel
theorem dX4_takeOff_42 : decode cX4_takeOff 42 = .ok (.iload_n 2, 1) := by decide +kernel
theorem dX4_takeOff_43 : decode cX4_takeOff 43 = .ok (.lload 4, 2) := by decide +kernel
theorem dX4_takeOff_45 : decode cX4_takeOff 45 = .ok (.lneg, 1) := by decide +kernel
theorem dX4_takeOff_46 : decode cX4_takeOff 46 = .ok (.invokevirtual 81, 3) := by decide +kernel
theorem dX4_takeOff_49 : decode cX4_takeOff 49 = .ok (.aload_n 0, 1) := by decide +kernel
theorem dX4_takeOff_50 : decode cX4_takeOff 50 = .ok (.aload_n 0, 1) := by decide +kernel
theorem dX4_takeOff_51 : decode cX4_takeOff 51 = .ok (.getfield 12, 3) := by decide +kernel
theorem dX4_takeOff_54 : decode cX4_takeOff 54 = .ok (.ldc2_w 85, 3) := by decide +kernel
theorem dX4_takeOff_57 : decode cX4_takeOff 57 = .ok (.invokevirtual 87, 3) := by decide +kernel
theorem dX4_takeOff_60 : decode cX4_takeOff 60 = .ok (.ifCond .eq 16, 3) := by decide +kernel
theorem dX4_takeOff_63 : decode cX4_takeOff 63 = .ok (.aload_n 0, 1) := by decide +kernel
theorem dX4_takeOff_64 : decode cX4_takeOff 64 = .ok (.getfield 18, 3) := by decide +kernel
theorem dX4_takeOff_67 : decode cX4_takeOff 67 = .ok (.ldc2_w 85, 3) := by decide +kernel
theorem dX4_takeOff_70 : decode cX4_takeOff 70 = .ok (.invokevirtual 87, 3) := by decide +kernel
theorem dX4_takeOff_73 : decode cX4_takeOff 73 = .ok (.ifCond .ne 7, 3) := by decide +kernel
theorem dX4_takeOff_76 : decode cX4_takeOff 76 = .ok (.iconst 1, 1) := by decide +kernel
theorem dX4_takeOff_77 : decode cX4_takeOff 77 = .ok (.goto 4, 3) := by decide +kernel
theorem dX4_takeOff_80 : decode cX4_takeOff 80 = .ok (.iconst 0, 1) := by decide +kernel
theorem dX4_takeOff_81 : decode cX4_takeOff 81 = .ok (.putfield 33, 3) := by decide +kernel
theorem dX4_takeOff_84 : decode cX4_takeOff 84 = .ok (.return_, 1) := by decide +kernel
theorem dX4_isClearBelow_0 : decode cX4_isClearBelow 0 = .ok (.iload_n 1, 1) := by decide +kernel
theorem dX4_isClearBelow_1 : decode cX4_isClearBelow 1 = .ok (.iconst 1, 1) := by decide +kernel
theorem dX4_isClearBelow_2 : decode cX4_isClearBelow 2 = .ok (.iadd, 1) := by decide +kernel
theorem dX4_isClearBelow_3 : decode cX4_isClearBelow 3 = .ok (.istore_n 3, 1) := by decide +kernel
theorem dX4_isClearBelow_4 : decode cX4_isClearBelow 4 = .ok (.iload_n 3, 1) := by decide +kernel
theorem dX4_isClearBelow_5 : decode cX4_isClearBelow 5 = .ok (.aload_n 0, 1) := by decide +kernel
theorem dX4_isClearBelow_6 : decode cX4_isClearBelow 6 = .ok (.getfield 12, 3) := by decide +kernel
theorem dX4_isClearBelow_9 : decode cX4_isClearBelow 9 = .ok (.getfield 25, 3) := by decide +kernel
theorem dX4_isClearBelow_12 : decode cX4_isClearBelow 12 = .ok (.if_icmp .ge 25, 3) := by decide +kernel
theorem dX4_isClearBelow_15 : decode cX4_isClearBelow 15 = .ok (.aload_n 0, 1) := by decide +kernel
theorem dX4_isClearBelow_16 : decode cX4_isClearBelow 16 = .ok (.getfield 12, 3) := by decide +kernel
theorem dX4_isClearBelow_19 : decode cX4_isClearBelow 19 = .ok (.iload_n 3, 1) := by decide +kernel
theorem dX4_isClearBelow_20 : decode cX4_isClearBelow 20 = .ok (.iload_n 2, 1) := by decide +kernel
theorem dX4_isClearBelow_21 : decode cX4_isClearBelow 21 = .ok (.invokevirtual 59, 3) := by decide +kernel
theorem dX4_isClearBelow_24 : decode cX4_isClearBelow 24 = .ok (.lconst 0, 1) := by decide +kernel
theorem dX4_isClearBelow_25 : decode cX4_isClearBelow 25 = .ok (.lcmp, 1) := by decide +kernel
theorem dX4_isClearBelow_26 : decode cX4_isClearBelow 26 = .ok (.ifCond .eq 5, 3) := by decide +kernel
theorem dX4_isClearBelow_29 : decode cX4_isClearBelow 29 = .ok (.iconst 0, 1) := by decide +kernel
theorem dX4_isClearBelow_30 : decode cX4_isClearBelow 30 = .ok (.ireturn, 1) := by decide +kernel
theorem dX4_isClearBelow_31 : decode cX4_isClearBelow 31 = .ok (.iinc 3 1, 3) := by decide +kernel
theorem dX4_isClearBelow_34 : decode cX4_isClearBelow 34 = .ok (.goto (-30), 3) := by decide +kernel
theorem dX4_isClearBelow_37 : decode cX4_isClearBelow 37 = .ok (.iconst 1, 1) := by decide +kernel
theorem dX4_isClearBelow_38 : decode cX4_isClearBelow 38 = .ok (.ireturn, 1) := by decide +kernel
theorem dX4_countFilledRows_0 : decode cX4_countFilledRows 0 = .ok (.iconst 0, 1) := by decide +kernel
theorem dX4_countFilledRows_1 : decode cX4_countFilledRows 1 = .ok (.istore_n 1, 1) := by decide +kernel
theorem dX4_countFilledRows_2 : decode cX4_countFilledRows 2 = .ok (.iconst 0, 1) := by decide +kernel
theorem dX4_countFilledRows_3 : decode cX4_countFilledRows 3 = .ok (.istore_n 2, 1) := by decide +kernel
theorem dX4_countFilledRows_4 : decode cX4_countFilledRows 4 = .ok (.iload_n 2, 1) := by decide +kernel
theorem dX4_countFilledRows_5 : decode cX4_countFilledRows 5 = .ok (.aload_n 0, 1) := by decide +kernel
theorem dX4_countFilledRows_6 : decode cX4_countFilledRows 6 = .ok (.getfield 12, 3) := by decide +kernel
theorem dX4_countFilledRows_9 : decode cX4_countFilledRows 9 = .ok (.getfield 25, 3) := by decide +kernel
theorem dX4_countFilledRows_12 : decode cX4_countFilledRows 12 = .ok (.if_icmp .ge 69, 3) := by decide +kernel
theorem dX4_countFilledRows_15 : decode cX4_countFilledRows 15 = .ok (.iconst 0, 1) := by decide +kernel
theorem dX4_countFilledRows_16 : decode cX4_countFilledRows 16 = .ok (.istore_n 3, 1) := by decide +kernel
theorem dX4_countFilledRows_17 : decode cX4_countFilledRows 17 = .ok (.iconst 0, 1) := by decide +kernel
theorem dX4_countFilledRows_18 : decode cX4_countFilledRows 18 = .ok (.istore 4, 2) := by decide +kernel
theorem dX4_countFilledRows_20 : decode cX4_countFilledRows 20 = .ok (.iload 4, 2) := by decide +kernel
theorem dX4_countFilledRows_22 : decode cX4_countFilledRows 22 = .ok (.aload_n 0, 1) := by decide +kernel
theorem dX4_countFilledRows_23 : decode cX4_countFilledRows 23 = .ok (.getfield 12, 3) := by decide +kernel
theorem dX4_countFilledRows_26 : decode cX4_countFilledRows 26 = .ok (.getfield 37, 3) := by decide +kernel
theorem dX4_countFilledRows_29 : decode cX4_countFilledRows 29 = .ok (.if_icmp .ge 34, 3) := by decide +kernel
theorem dX4_countFilledRows_32 : decode cX4_countFilledRows 32 = .ok (.iload_n 3, 1) := by decide +kernel
theorem dX4_countFilledRows_33 : decode cX4_countFilledRows 33 = .ok (.ifCond .ne 18, 3) := by decide +kernel
theorem dX4_countFilledRows_36 : decode cX4_countFilledRows 36 = .ok (.aload_n 0, 1) := by decide +kernel
theorem dX4_countFilledRows_37 : decode cX4_countFilledRows 37 = .ok (.getfield 12, 3) := by decide +kernel
theorem dX4_countFilledRows_40 : decode cX4_countFilledRows 40 = .ok (.iload_n 2, 1) := by decide +kernel
theorem dX4_countFilledRows_41 : decode cX4_countFilledRows 41 = .ok (.iload 4, 2) := by decide +kernel
theorem dX4_countFilledRows_43 : decode cX4_countFilledRows 43 = .ok (.invokevirtual 59, 3) := by decide +kernel
theorem dX4_countFilledRows_46 : decode cX4_countFilledRows 46 = .ok (.lconst 0, 1) := by decide +kernel
theorem dX4_countFilledRows_47 : decode cX4_countFilledRows 47 = .ok (.lcmp, 1) := by decide +kernel
theorem dX4_countFilledRows_48 : decode cX4_countFilledRows 48 = .ok (.ifCond .eq 7, 3) := by decide +kernel
theorem dX4_countFilledRows_51 : decode cX4_countFilledRows 51 = .ok (.iconst 1, 1) := by decide +kernel
theorem dX4_countFilledRows_52 : decode cX4_countFilledRows 52 = .ok (.goto 4, 3) := by decide +kernel
theorem dX4_countFilledRows_55 : decode cX4_countFilledRows 55 = .ok (.iconst 0, 1) := by decide +kernel
theorem dX4_countFilledRows_56 : decode cX4_countFilledRows 56 = .ok (.istore_n 3, 1) := by decide +kernel
theorem dX4_countFilledRows_57 : decode cX4_countFilledRows 57 = .ok (.iinc 4 1, 3) := by decide +kernel
theorem dX4_countFilledRows_60 : decode cX4_countFilledRows 60 = .ok (.goto (-40), 3) := by decide +kernel
theorem dX4_countFilledRows_63 : decode cX4_countFilledRows 63 = .ok (.iload_n 1, 1) := by decide +kernel
theorem dX4_countFilledRows_64 : decode cX4_countFilledRows 64 = .ok (.iload_n 3, 1) := by decide +kernel
theorem dX4_countFilledRows_65 : decode cX4_countFilledRows 65 = .ok (.ifCond .eq 7, 3) := by decide +kernel
theorem dX4_countFilledRows_68 : decode cX4_countFilledRows 68 = .ok (.iconst 1, 1) := by decide +kernel
theorem dX4_countFilledRows_69 : decode cX4_countFilledRows 69 = .ok (.goto 4, 3) := by decide +kernel
theorem dX4_countFilledRows_72 : decode cX4_countFilledRows 72 = .ok (.iconst 0, 1) := by decide +kernel
theorem dX4_countFilledRows_73 : decode cX4_countFilledRows 73 = .ok (.iadd, 1) := by decide +kernel
theorem dX4_countFilledRows_74 : decode cX4_countFilledRows 74 = .ok (.istore_n 1, 1) := by decide +kernel
theorem dX4_countFilledRows_75 : decode cX4_countFilledRows 75 = .ok (.iinc 2 1, 3) := by decide +kernel
theorem dX4_countFilledRows_78 : decode cX4_countFilledRows 78 = .ok (.goto (-74), 3) := by decide +kernel
theorem dX4_countFilledRows_81 : decode cX4_countFilledRows 81 = .ok (.iload_n 1, 1) := by decide +kernel
theorem dX4_countFilledRows_82 : decode cX4_countFilledRows 82 = .ok (.ireturn, 1) := by decide +kernel
theorem dX4_findDeterminant_0 : decode cX4_findDeterminant 0 = .ok (.aload_n 0, 1) := by decide +kernel
theorem dX4_findDeterminant_1 : decode cX4_findDeterminant 1 = .ok (.getfield 18, 3) := by decide +kernel
theorem dX4_findDeterminant_4 : decode cX4_findDeterminant 4 = .ok (.invokestatic 91, 3) := by decide +kernel
theorem dX4_findDeterminant_7 : decode cX4_findDeterminant 7 = .ok (.lstore_n 1, 1) := by decide +kernel
theorem dX4_findDeterminant_8 : decode cX4_findDeterminant 8 = .ok (.iconst 0, 1) := by decide +kernel
theorem dX4_findDeterminant_9 : decode cX4_findDeterminant 9 = .ok (.istore_n 3, 1) := by decide +kernel
theorem dX4_findDeterminant_10 : decode cX4_findDeterminant 10 = .ok (.iload_n 3, 1) := by decide +kernel
theorem dX4_findDeterminant_11 : decode cX4_findDeterminant 11 = .ok (.aload_n 0, 1) := by decide +kernel
theorem dX4_findDeterminant_12 : decode cX4_findDeterminant 12 = .ok (.getfield 12, 3) := by decide +kernel
theorem dX4_findDeterminant_15 : decode cX4_findDeterminant 15 = .ok (.getfield 25, 3) := by decide +kernel
theorem dX4_findDeterminant_18 : decode cX4_findDeterminant 18 = .ok (.if_icmp .ge 21, 3) := by decide +kernel
theorem dX4_findDeterminant_21 : decode cX4_findDeterminant 21 = .ok (.lload_n 1, 1) := by decide +kernel
theorem dX4_findDeterminant_22 : decode cX4_findDeterminant 22 = .ok (.aload_n 0, 1) := by decide +kernel
theorem dX4_findDeterminant_23 : decode cX4_findDeterminant 23 = .ok (.getfield 12, 3) := by decide +kernel
theorem dX4_findDeterminant_26 : decode cX4_findDeterminant 26 = .ok (.iload_n 3, 1) := by decide +kernel
theorem dX4_findDeterminant_27 : decode cX4_findDeterminant 27 = .ok (.iload_n 3, 1) := by decide +kernel
theorem dX4_findDeterminant_28 : decode cX4_findDeterminant 28 = .ok (.invokevirtual 59, 3) := by decide +kernel
theorem dX4_findDeterminant_31 : decode cX4_findDeterminant 31 = .ok (.lmul, 1) := by decide +kernel
theorem dX4_findDeterminant_32 : decode cX4_findDeterminant 32 = .ok (.lstore_n 1, 1) := by decide +kernel
theorem dX4_findDeterminant_33 : decode cX4_findDeterminant 33 = .ok (.iinc 3 1, 3) := by decide +kernel
theorem dX4_findDeterminant_36 : decode cX4_findDeterminant 36 = .ok (.goto (-26), 3) := by decide +kernel
theorem dX4_findDeterminant_39 : decode cX4_findDeterminant 39 = .ok (.lload_n 1, 1) := by decide +kernel
theorem dX4_findDeterminant_40 : decode cX4_findDeterminant 40 = .ok (.lreturn, 1) := by decide +kernel
theorem dX5_init_0 : decode cX5_init 0 = .ok (.aload_n 0, 1) := by decide +kernel
theorem dX5_init_1 : decode cX5_init 1 = .ok (.invokespecial 1, 3) := by decide +kernel
theorem dX5_init_4 : decode cX5_init 4 = .ok (.aload_n 0, 1) := by decide +kernel
theorem dX5_init_5 : decode cX5_init 5 = .ok (.iconst 4, 1) := by decide +kernel
theorem dX5_init_6 : decode cX5_init 6 = .ok (.anewarray 9, 3) := by decide +kernel
theorem dX5_init_9 : decode cX5_init 9 = .ok (.putfield 11, 3) := by decide +kernel
theorem dX5_init_12 : decode cX5_init 12 = .ok (.aload_n 0, 1) := by decide +kernel
theorem dX5_init_13 : decode cX5_init 13 = .ok (.new 9, 3) := by decide +kernel
theorem dX5_init_16 : decode cX5_init 16 = .ok (.dup, 1) := by decide +kernel
theorem dX5_init_17 : decode cX5_init 17 = .ok (.invokespecial 15, 3) := by decide +kernel
theorem dX5_init_20 : decode cX5_init 20 = .ok (.putfield 16, 3) := by decide +kernel
theorem dX5_init_23 : decode cX5_init 23 = .ok (.aload_n 0, 1) := by decide +kernel
theorem dX5_init_24 : decode cX5_init 24 = .ok (.new 9, 3) := by decide +kernel
theorem dX5_init_27 : decode cX5_init 27 = .ok (.dup, 1) := by decide +kernel
theorem dX5_init_28 : decode cX5_init 28 = .ok (.invokespecial 15, 3) := by decide +kernel
theorem dX5_init_31 : decode cX5_init 31 = .ok (.putfield 20, 3) := by decide +kernel
theorem dX5_init_34 : decode cX5_init 34 = .ok (.aload_n 0, 1) := by decide +kernel
theorem dX5_init_35 : decode cX5_init 35 = .ok (.new 23, 3) := by decide +kernel
theorem dX5_init_38 : decode cX5_init 38 = .ok (.dup, 1) := by decide +kernel
theorem dX5_init_39 : decode cX5_init 39 = .ok (.invokespecial 25, 3) := by decide +kernel
theorem dX5_init_42 : decode cX5_init 42 = .ok (.putfield 26, 3) := by decide +kernel
theorem dX5_init_45 : decode cX5_init 45 = .ok (.aload_n 0, 1) := by decide +kernel
theorem dX5_init_46 : decode cX5_init 46 = .ok (.new 30, 3) := by decide +kernel
theorem dX5_init_49 : decode cX5_init 49 = .ok (.dup, 1) := by decide +kernel
theorem dX5_init_50 : decode cX5_init 50 = .ok (.invokespecial 32, 3) := by decide +kernel
theorem dX5_init_53 : decode cX5_init 53 = .ok (.putfield 33, 3) := by decide +kernel
theorem dX5_init_56 : decode cX5_init 56 = .ok (.aload_n 0, 1) := by decide +kernel
theorem dX5_init_57 : decode cX5_init 57 = .ok (.new 37, 3) := by decide +kernel
theorem dX5_init_60 : decode cX5_init 60 = .ok (.dup, 1) := by decide +kernel
theorem dX5_init_61 : decode cX5_init 61 = .ok (.invokespecial 39, 3) := by decide +kernel
theorem dX5_init_64 : decode cX5_init 64 = .ok (.putfield 40, 3) := by decide +kernel
theorem dX5_init_67 : decode cX5_init 67 = .ok (.aload_n 0, 1) := by decide +kernel
theorem dX5_init_68 : decode cX5_init 68 = .ok (.iconst 4, 1) := by decide +kernel
theorem dX5_init_69 : decode cX5_init 69 = .ok (.newarray .long, 2) := by decide +kernel
theorem dX5_init_71 : decode cX5_init 71 = .ok (.putfield 44, 3) := by decide +kernel
theorem dX5_init_74 : decode cX5_init 74 = .ok (.iconst 0, 1) := by decide +kernel
theorem dX5_init_75 : decode cX5_init 75 = .ok (.istore_n 1, 1) := by decide +kernel
theorem dX5_init_76 : decode cX5_init 76 = .ok (.iload_n 1, 1) := by decide +kernel
theorem dX5_init_77 : decode cX5_init 77 = .ok (.iconst 4, 1) := by decide +kernel
theorem dX5_init_78 : decode cX5_init 78 = .ok (.if_icmp .ge 22, 3) := by decide +kernel
theorem dX5_init_81 : decode cX5_init 81 = .ok (.aload_n 0, 1) := by decide +kernel
theorem dX5_init_82 : decode cX5_init 82 = .ok (.getfield 11, 3) := by decide +kernel
theorem dX5_init_85 : decode cX5_init 85 = .ok (.iload_n 1, 1) := by decide +kernel
theorem dX5_init_86 : decode cX5_init 86 = .ok (.new 9, 3) := by decide +kernel
theorem dX5_init_89 : decode cX5_init 89 = .ok (.dup, 1) := by decide +kernel
theorem dX5_init_90 : decode cX5_init 90 = .ok (.invokespecial 15, 3) := by decide +kernel
theorem dX5_init_93 : decode cX5_init 93 = .ok (.aastore, 1) := by decide +kernel
theorem dX5_init_94 : decode cX5_init 94 = .ok (.iinc 1 1, 3) := by decide +kernel
theorem dX5_init_97 : decode cX5_init 97 = .ok (.goto (-21), 3) := by decide +kernel
theorem dX5_init_100 : decode cX5_init 100 = .ok (.return_, 1) := by decide +kernel
theorem dX5_make_0 : decode cX5_make 0 = .ok (.aload_n 0, 1) := by decide +kernel
theorem dX5_make_1 : decode cX5_make 1 = .ok (.iload_n 1, 1) := by decide +kernel
theorem dX5_make_2 : decode cX5_make 2 = .ok (.invokevirtual 48, 3) := by decide +kernel
theorem dX5_make_5 : decode cX5_make 5 = .ok (.astore 4, 2) := by decide +kernel
theorem dX5_make_7 : decode cX5_make 7 = .ok (.iload_n 2, 1) := by decide +kernel
theorem dX5_make_8 : decode cX5_make 8 = .ok (.invokestatic 52, 3) := by decide +kernel
theorem dX5_make_11 : decode cX5_make 11 = .ok (.ifCond .eq 14, 3) := by decide +kernel
theorem dX5_make_14 : decode cX5_make 14 = .ok (.iload_n 3, 1) := by decide +kernel
theorem dX5_make_15 : decode cX5_make 15 = .ok (.invokestatic 52, 3) := by decide +kernel
theorem dX5_make_18 : decode cX5_make 18 = .ok (.ifCond .eq 7, 3) := by decide +kernel
theorem dX5_make_21 : decode cX5_make 21 = .ok (.iconst 1, 1) := by decide +kernel
theorem dX5_make_22 : decode cX5_make 22 = .ok (.goto 4, 3) := by decide +kernel
theorem dX5_make_25 : decode cX5_make 25 = .ok (.iconst 0, 1) := by decide +kernel
theorem dX5_make_26 : decode cX5_make 26 = .ok (.invokestatic 56, 3) := by decide +kernel
theorem dX5_make_29 : decode cX5_make 29 = .ok (.aload 4, 2) := by decide +kernel
theorem dX5_make_31 : decode cX5_make 31 = .ok (.invokevirtual 60, 3) := by decide +kernel
theorem dX5_make_34 : decode cX5_make 34 = .ok (.istore 5, 2) := by decide +kernel
theorem dX5_make_36 : decode cX5_make 36 = .ok (.aload 4, 2) := by decide +kernel
theorem dX5_make_38 : decode cX5_make 38 = .ok (.iload_n 2, 1) := by decide +kernel
theorem dX5_make_39 : decode cX5_make 39 = .ok (.iload_n 3, 1) := by decide +kernel
theorem dX5_make_40 : decode cX5_make 40 = .ok (.invokevirtual 64, 3) := by decide +kernel
theorem dX5_make_43 : decode cX5_make 43 = .ok (.aload_n 0, 1) := by decide +kernel
theorem dX5_make_44 : decode cX5_make 44 = .ok (.iload 5, 2) := by decide +kernel
theorem dX5_make_46 : decode cX5_make 46 = .ok (.invokevirtual 68, 3) := by decide +kernel
theorem dX5_make_49 : decode cX5_make 49 = .ok (.ireturn, 1) := by decide +kernel
theorem dX5_unit_0 : decode cX5_unit 0 = .ok (.aload_n 0, 1) := by decide +kernel
theorem dX5_unit_1 : decode cX5_unit 1 = .ok (.iload_n 1, 1) := by decide +kernel
theorem dX5_unit_2 : decode cX5_unit 2 = .ok (.invokevirtual 48, 3) := by decide +kernel
theorem dX5_unit_5 : decode cX5_unit 5 = .ok (.astore_n 3, 1) := by decide +kernel
theorem dX5_unit_6 : decode cX5_unit 6 = .ok (.iload_n 2, 1) := by decide +kernel
theorem dX5_unit_7 : decode cX5_unit 7 = .ok (.invokestatic 52, 3) := by decide +kernel
theorem dX5_unit_10 : decode cX5_unit 10 = .ok (.invokestatic 56, 3) := by decide +kernel
theorem dX5_unit_13 : decode cX5_unit 13 = .ok (.aload_n 3, 1) := by decide +kernel
theorem dX5_unit_14 : decode cX5_unit 14 = .ok (.invokevirtual 60, 3) := by decide +kernel
theorem dX5_unit_17 : decode cX5_unit 17 = .ok (.istore 4, 2) := by decide +kernel
theorem dX5_unit_19 : decode cX5_unit 19 = .ok (.aload_n 3, 1) := by decide +kernel
theorem dX5_unit_20 : decode cX5_unit 20 = .ok (.iload_n 2, 1) := by decide +kernel
theorem dX5_unit_21 : decode cX5_unit 21 = .ok (.invokevirtual 72, 3) := by decide +kernel
theorem dX5_unit_24 : decode cX5_unit 24 = .ok (.aload_n 0, 1) := by decide +kernel
theorem dX5_unit_25 : decode cX5_unit 25 = .ok (.iload 4, 2) := by decide +kernel
theorem dX5_unit_27 : decode cX5_unit 27 = .ok (.invokevirtual 68, 3) := by decide +kernel
theorem dX5_unit_30 : decode cX5_unit 30 = .ok (.ireturn, 1) := by decide +kernel
theorem dX5_put_0 : decode cX5_put 0 = .ok (.aload_n 0, 1) := by decide +kernel
theorem dX5_put_1 : decode cX5_put 1 = .ok (.iload_n 1, 1) := by decide +kernel
theorem dX5_put_2 : decode cX5_put 2 = .ok (.invokevirtual 48, 3) := by decide +kernel
theorem dX5_put_5 : decode cX5_put 5 = .ok (.astore 5, 2) := by decide +kernel
theorem dX5_put_7 : decode cX5_put 7 = .ok (.aload 5, 2) := by decide +kernel
theorem dX5_put_9 : decode cX5_put 9 = .ok (.iconst 0, 1) := by decide +kernel
theorem dX5_put_10 : decode cX5_put 10 = .ok (.iload_n 2, 1) := by decide +kernel
theorem dX5_put_11 : decode cX5_put 11 = .ok (.invokevirtual 76, 3) := by decide +kernel
theorem dX5_put_14 : decode cX5_put 14 = .ok (.ifCond .eq 17, 3) := by decide +kernel
theorem dX5_put_17 : decode cX5_put 17 = .ok (.aload 5, 2) := by decide +kernel
theorem dX5_put_19 : decode cX5_put 19 = .ok (.iconst 1, 1) := by decide +kernel
theorem dX5_put_20 : decode cX5_put 20 = .ok (.iload_n 3, 1) := by decide +kernel
theorem dX5_put_21 : decode cX5_put 21 = .ok (.invokevirtual 76, 3) := by decide +kernel
theorem dX5_put_24 : decode cX5_put 24 = .ok (.ifCond .eq 7, 3) := by decide +kernel
theorem dX5_put_27 : decode cX5_put 27 = .ok (.iconst 1, 1) := by decide +kernel
theorem dX5_put_28 : decode cX5_put 28 = .ok (.goto 4, 3) := by decide +kernel
theorem dX5_put_31 : decode cX5_put 31 = .ok (.iconst 0, 1) := by decide +kernel
theorem dX5_put_32 : decode cX5_put 32 = .ok (.invokestatic 80, 3) := by decide +kernel
theorem dX5_put_35 : decode cX5_put 35 = .ok (.iload 4, 2) := by decide +kernel
theorem dX5_put_37 : decode cX5_put 37 = .ok (.bipush (-20), 2) := by decide +kernel
theorem dX5_put_39 : decode cX5_put 39 = .ok (.if_icmp .lt 14, 3) := by decide +kernel
theorem dX5_put_42 : decode cX5_put 42 = .ok (.iload 4, 2) := by decide +kernel
theorem dX5_put_44 : decode cX5_put 44 = .ok (.bipush 20, 2) := by decide +kernel
theorem dX5_put_46 : decode cX5_put 46 = .ok (.if_icmp .gt 7, 3) := by decide +kernel
theorem dX5_put_49 : decode cX5_put 49 = .ok (.iconst 1, 1) := by decide +kernel
theorem dX5_put_50 : decode cX5_put 50 = .ok (.goto 4, 3) := by decide +kernel
theorem dX5_put_53 : decode cX5_put 53 = .ok (.iconst 0, 1) := by decide +kernel
theorem dX5_put_54 : decode cX5_put 54 = .ok (.invokestatic 56, 3) := by decide +kernel
theorem dX5_put_57 : decode cX5_put 57 = .ok (.aload 5, 2) := by decide +kernel
theorem dX5_put_59 : decode cX5_put 59 = .ok (.iload_n 2, 1) := by decide +kernel
theorem dX5_put_60 : decode cX5_put 60 = .ok (.iload_n 3, 1) := by decide +kernel
theorem dX5_put_61 : decode cX5_put 61 = .ok (.invokevirtual 83, 3) := by decide +kernel
theorem dX5_put_64 : decode cX5_put 64 = .ok (.iload 4, 2) := by decide +kernel
theorem dX5_put_66 : decode cX5_put 66 = .ok (.i2l, 1) := by decide +kernel
theorem dX5_put_67 : decode cX5_put 67 = .ok (.lcmp, 1) := by decide +kernel
theorem dX5_put_68 : decode cX5_put 68 = .ok (.ifCond .eq 7, 3) := by decide +kernel
theorem dX5_put_71 : decode cX5_put 71 = .ok (.iconst 1, 1) := by decide +kernel
theorem dX5_put_72 : decode cX5_put 72 = .ok (.goto 4, 3) := by decide +kernel
theorem dX5_put_75 : decode cX5_put 75 = .ok (.iconst 0, 1) := by decide +kernel
theorem dX5_put_76 : decode cX5_put 76 = .ok (.istore 6, 2) := by decide +kernel
theorem dX5_put_78 : decode cX5_put 78 = .ok (.aload 5, 2) := by decide +kernel
theorem dX5_put_80 : decode cX5_put 80 = .ok (.iload_n 2, 1) := by decide +kernel
theorem dX5_put_81 : decode cX5_put 81 = .ok (.iload_n 3, 1) := by decide +kernel
theorem dX5_put_82 : decode cX5_put 82 = .ok (.iload 4, 2) := by decide +kernel
theorem dX5_put_84 : decode cX5_put 84 = .ok (.i2l, 1) := by decide +kernel
theorem dX5_put_85 : decode cX5_put 85 = .ok (.invokevirtual 87, 3) := by decide +kernel
theorem dX5_put_88 : decode cX5_put 88 = .ok (.aload_n 0, 1) := by decide +kernel
theorem dX5_put_89 : decode cX5_put 89 = .ok (.iload 6, 2) := by decide +kernel
theorem dX5_put_91 : decode cX5_put 91 = .ok (.ifCond .eq 7, 3) := by decide +kernel
theorem dX5_put_94 : decode cX5_put 94 = .ok (.iconst 1, 1) := by decide +kernel
theorem dX5_put_95 : decode cX5_put 95 = .ok (.goto 4, 3) := by decide +kernel
theorem dX5_put_98 : decode cX5_put 98 = .ok (.iconst 0, 1) := by decide +kernel
theorem dX5_put_99 : decode cX5_put 99 = .ok (.invokevirtual 68, 3) := by decide +kernel
theorem dX5_put_102 : decode cX5_put 102 = .ok (.ireturn, 1) := by decide +kernel
theorem dX5_sow_0 : decode cX5_sow 0 = .ok (.aload_n 0, 1) := by decide +kernel
theorem dX5_sow_1 : decode cX5_sow 1 = .ok (.iload_n 1, 1) := by decide +kernel
theorem dX5_sow_2 : decode cX5_sow 2 = .ok (.invokevirtual 48, 3) := by decide +kernel
theorem dX5_sow_5 : decode cX5_sow 5 = .ok (.astore 4, 2) := by decide +kernel
theorem dX5_sow_7 : decode cX5_sow 7 = .ok (.iload_n 2, 1) := by decide +kernel
theorem dX5_sow_8 : decode cX5_sow 8 = .ok (.ifCond .lt 23, 3) := by decide +kernel
theorem dX5_sow_11 : decode cX5_sow 11 = .ok (.iload_n 2, 1) := by decide +kernel
theorem dX5_sow_12 : decode cX5_sow 12 = .ok (.ldc 91, 2) := by decide +kernel
theorem dX5_sow_14 : decode cX5_sow 14 = .ok (.if_icmp .gt 17, 3) := by decide +kernel
theorem dX5_sow_17 : decode cX5_sow 17 = .ok (.iload_n 3, 1) := by decide +kernel
theorem dX5_sow_18 : decode cX5_sow 18 = .ok (.ifCond .lt 13, 3) := by decide +kernel
theorem dX5_sow_21 : decode cX5_sow 21 = .ok (.iload_n 3, 1) := by decide +kernel
theorem dX5_sow_22 : decode cX5_sow 22 = .ok (.bipush 20, 2) := by decide +kernel
theorem dX5_sow_24 : decode cX5_sow 24 = .ok (.if_icmp .gt 7, 3) := by decide +kernel
theorem dX5_sow_27 : decode cX5_sow 27 = .ok (.iconst 1, 1) := by decide +kernel
theorem dX5_sow_28 : decode cX5_sow 28 = .ok (.goto 4, 3) := by decide +kernel
theorem dX5_sow_31 : decode cX5_sow 31 = .ok (.iconst 0, 1) := by decide +kernel
theorem dX5_sow_32 : decode cX5_sow 32 = .ok (.invokestatic 56, 3) := by decide +kernel
theorem dX5_sow_35 : decode cX5_sow 35 = .ok (.iload_n 2, 1) := by decide +kernel
theorem dX5_sow_36 : decode cX5_sow 36 = .ok (.istore 5, 2) := by decide +kernel
theorem dX5_sow_38 : decode cX5_sow 38 = .ok (.iconst 0, 1) := by decide +kernel
theorem dX5_sow_39 : decode cX5_sow 39 = .ok (.istore 6, 2) := by decide +kernel
theorem dX5_sow_41 : decode cX5_sow 41 = .ok (.iload 6, 2) := by decide +kernel
theorem dX5_sow_43 : decode cX5_sow 43 = .ok (.aload 4, 2) := by decide +kernel
theorem dX5_sow_45 : decode cX5_sow 45 = .ok (.getfield 92, 3) := by decide +kernel
theorem dX5_sow_48 : decode cX5_sow 48 = .ok (.if_icmp .ge 70, 3) := by decide +kernel
theorem dX5_sow_51 : decode cX5_sow 51 = .ok (.iconst 0, 1) := by decide +kernel
theorem dX5_sow_52 : decode cX5_sow 52 = .ok (.istore 7, 2) := by decide +kernel
theorem dX5_sow_54 : decode cX5_sow 54 = .ok (.iload 7, 2) := by decide +kernel
theorem dX5_sow_56 : decode cX5_sow 56 = .ok (.aload 4, 2) := by decide +kernel
theorem dX5_sow_58 : decode cX5_sow 58 = .ok (.getfield 96, 3) := by decide +kernel
theorem dX5_sow_61 : decode cX5_sow 61 = .ok (.if_icmp .ge 51, 3) := by decide +kernel
theorem dX5_sow_64 : decode cX5_sow 64 = .ok (.iload 5, 2) := by decide +kernel
theorem dX5_sow_66 : decode cX5_sow 66 = .ok (.sipush 25173, 3) := by decide +kernel
theorem dX5_sow_69 : decode cX5_sow 69 = .ok (.imul, 1) := by decide +kernel
theorem dX5_sow_70 : decode cX5_sow 70 = .ok (.sipush 13849, 3) := by decide +kernel
theorem dX5_sow_73 : decode cX5_sow 73 = .ok (.iadd, 1) := by decide +kernel
theorem dX5_sow_74 : decode cX5_sow 74 = .ok (.ldc 99, 2) := by decide +kernel
theorem dX5_sow_76 : decode cX5_sow 76 = .ok (.irem, 1) := by decide +kernel
theorem dX5_sow_77 : decode cX5_sow 77 = .ok (.istore 5, 2) := by decide +kernel
theorem dX5_sow_79 : decode cX5_sow 79 = .ok (.aload 4, 2) := by decide +kernel
theorem dX5_sow_81 : decode cX5_sow 81 = .ok (.iload 6, 2) := by decide +kernel
theorem dX5_sow_83 : decode cX5_sow 83 = .ok (.iload 7, 2) := by decide +kernel
theorem dX5_sow_85 : decode cX5_sow 85 = .ok (.iload 5, 2) := by decide +kernel
theorem dX5_sow_87 : decode cX5_sow 87 = .ok (.bipush 64, 2) := by decide +kernel
theorem dX5_sow_89 : decode cX5_sow 89 = .ok (.idiv, 1) := by decide +kernel
theorem dX5_sow_90 : decode cX5_sow 90 = .ok (.i2l, 1) := by decide +kernel
theorem dX5_sow_91 : decode cX5_sow 91 = .ok (.iconst 2, 1) := by decide +kernel
theorem dX5_sow_92 : decode cX5_sow 92 = .ok (.iload_n 3, 1) := by decide +kernel
theorem dX5_sow_93 : decode cX5_sow 93 = .ok (.imul, 1) := by decide +kernel
theorem dX5_sow_94 : decode cX5_sow 94 = .ok (.iconst 1, 1) := by decide +kernel
theorem dX5_sow_95 : decode cX5_sow 95 = .ok (.iadd, 1) := by decide +kernel
theorem dX5_sow_96 : decode cX5_sow 96 = .ok (.i2l, 1) := by decide +kernel
theorem dX5_sow_97 : decode cX5_sow 97 = .ok (.invokestatic 100, 3) := by decide +kernel
theorem dX5_sow_100 : decode cX5_sow 100 = .ok (.iload_n 3, 1) := by decide +kernel
theorem dX5_sow_101 : decode cX5_sow 101 = .ok (.i2l, 1) := by decide +kernel
theorem dX5_sow_102 : decode cX5_sow 102 = .ok (.lsub, 1) := by decide +kernel
theorem dX5_sow_103 : decode cX5_sow 103 = .ok (.invokevirtual 87, 3) := by decide +kernel
theorem dX5_sow_106 : decode cX5_sow 106 = .ok (.iinc 7 1, 3) := by decide +kernel
theorem dX5_sow_109 : decode cX5_sow 109 = .ok (.goto (-55), 3) := by decide +kernel
theorem dX5_sow_112 : decode cX5_sow 112 = .ok (.iinc 6 1, 3) := by decide +kernel
theorem dX5_sow_115 : decode cX5_sow 115 = .ok (.goto (-74), 3) := by decide +kernel
theorem dX5_sow_118 : decode cX5_sow 118 = .ok (.aload_n 0, 1) := by decide +kernel
theorem dX5_sow_119 : decode cX5_sow 119 = .ok (.aload 4, 2) := by decide +kernel
theorem dX5_sow_121 : decode cX5_sow 121 = .ok (.getfield 92, 3) := by decide +kernel
theorem dX5_sow_124 : decode cX5_sow 124 = .ok (.aload 4, 2) := by decide +kernel
theorem dX5_sow_126 : decode cX5_sow 126 = .ok (.getfield 96, 3) := by decide +kernel
theorem dX5_sow_129 : decode cX5_sow 129 = .ok (.imul, 1) := by decide +kernel
theorem dX5_sow_130 : decode cX5_sow 130 = .ok (.aload 4, 2) := by decide +kernel
theorem dX5_sow_132 : decode cX5_sow 132 = .ok (.invokevirtual 60, 3) := by decide +kernel
theorem dX5_sow_135 : decode cX5_sow 135 = .ok (.isub, 1) := by decide +kernel
theorem dX5_sow_136 : decode cX5_sow 136 = .ok (.invokevirtual 68, 3) := by decide +kernel
theorem dX5_sow_139 : decode cX5_sow 139 = .ok (.ireturn, 1) := by decide +kernel
theorem dX5_copy_0 : decode cX5_copy 0 = .ok (.aload_n 0, 1) := by decide +kernel
theorem dX5_copy_1 : decode cX5_copy 1 = .ok (.iload_n 1, 1) := by decide +kernel
theorem dX5_copy_2 : decode cX5_copy 2 = .ok (.invokevirtual 48, 3) := by decide +kernel
theorem dX5_copy_5 : decode cX5_copy 5 = .ok (.astore_n 3, 1) := by decide +kernel
theorem dX5_copy_6 : decode cX5_copy 6 = .ok (.aload_n 0, 1) := by decide +kernel
theorem dX5_copy_7 : decode cX5_copy 7 = .ok (.iload_n 2, 1) := by decide +kernel
theorem dX5_copy_8 : decode cX5_copy 8 = .ok (.invokevirtual 48, 3) := by decide +kernel
theorem dX5_copy_11 : decode cX5_copy 11 = .ok (.astore 4, 2) := by decide +kernel
theorem dX5_copy_13 : decode cX5_copy 13 = .ok (.aload 4, 2) := by decide +kernel
theorem dX5_copy_15 : decode cX5_copy 15 = .ok (.aload_n 3, 1) := by decide +kernel
theorem dX5_copy_16 : decode cX5_copy 16 = .ok (.invokevirtual 104, 3) := by decide +kernel
theorem dX5_copy_19 : decode cX5_copy 19 = .ok (.ifCond .ne 7, 3) := by decide +kernel
theorem dX5_copy_22 : decode cX5_copy 22 = .ok (.iconst 1, 1) := by decide +kernel
theorem dX5_copy_23 : decode cX5_copy 23 = .ok (.goto 4, 3) := by decide +kernel
theorem dX5_copy_26 : decode cX5_copy 26 = .ok (.iconst 0, 1) := by decide +kernel
theorem dX5_copy_27 : decode cX5_copy 27 = .ok (.istore 5, 2) := by decide +kernel
theorem dX5_copy_29 : decode cX5_copy 29 = .ok (.aload 4, 2) := by decide +kernel
theorem dX5_copy_31 : decode cX5_copy 31 = .ok (.aload_n 3, 1) := by decide +kernel
theorem dX5_copy_32 : decode cX5_copy 32 = .ok (.invokevirtual 108, 3) := by decide +kernel
theorem dX5_copy_35 : decode cX5_copy 35 = .ok (.aload_n 0, 1) := by decide +kernel
theorem dX5_copy_36 : decode cX5_copy 36 = .ok (.iload 5, 2) := by decide +kernel
theorem dX5_copy_38 : decode cX5_copy 38 = .ok (.ifCond .eq 7, 3) := by decide +kernel
theorem dX5_copy_41 : decode cX5_copy 41 = .ok (.iconst 1, 1) := by decide +kernel
theorem dX5_copy_42 : decode cX5_copy 42 = .ok (.goto 4, 3) := by decide +kernel
theorem dX5_copy_45 : decode cX5_copy 45 = .ok (.iconst 0, 1) := by decide +kernel
theorem dX5_copy_46 : decode cX5_copy 46 = .ok (.invokevirtual 68, 3) := by decide +kernel
theorem dX5_copy_49 : decode cX5_copy 49 = .ok (.ireturn, 1) := by decide +kernel
theorem dX5_swap_0 : decode cX5_swap 0 = .ok (.aload_n 0, 1) := by decide +kernel
theorem dX5_swap_1 : decode cX5_swap 1 = .ok (.iload_n 1, 1) := by decide +kernel
theorem dX5_swap_2 : decode cX5_swap 2 = .ok (.invokevirtual 48, 3) := by decide +kernel
theorem dX5_swap_5 : decode cX5_swap 5 = .ok (.astore_n 3, 1) := by decide +kernel
theorem dX5_swap_6 : decode cX5_swap 6 = .ok (.aload_n 0, 1) := by decide +kernel
theorem dX5_swap_7 : decode cX5_swap 7 = .ok (.iload_n 2, 1) := by decide +kernel
theorem dX5_swap_8 : decode cX5_swap 8 = .ok (.invokevirtual 48, 3) := by decide +kernel
theorem dX5_swap_11 : decode cX5_swap 11 = .ok (.astore 4, 2) := by decide +kernel
theorem dX5_swap_13 : decode cX5_swap 13 = .ok (.aload_n 3, 1) := by decide +kernel
theorem dX5_swap_14 : decode cX5_swap 14 = .ok (.aload 4, 2) := by decide +kernel
theorem dX5_swap_16 : decode cX5_swap 16 = .ok (.invokevirtual 104, 3) := by decide +kernel
theorem dX5_swap_19 : decode cX5_swap 19 = .ok (.ifCond .ne 7, 3) := by decide +kernel
theorem dX5_swap_22 : decode cX5_swap 22 = .ok (.iconst 1, 1) := by decide +kernel
theorem dX5_swap_23 : decode cX5_swap 23 = .ok (.goto 4, 3) := by decide +kernel
theorem dX5_swap_26 : decode cX5_swap 26 = .ok (.iconst 0, 1) := by decide +kernel
theorem dX5_swap_27 : decode cX5_swap 27 = .ok (.istore 5, 2) := by decide +kernel
theorem dX5_swap_29 : decode cX5_swap 29 = .ok (.aload_n 0, 1) := by decide +kernel
theorem dX5_swap_30 : decode cX5_swap 30 = .ok (.getfield 16, 3) := by decide +kernel
theorem dX5_swap_33 : decode cX5_swap 33 = .ok (.aload_n 3, 1) := by decide +kernel
theorem dX5_swap_34 : decode cX5_swap 34 = .ok (.invokevirtual 108, 3) := by decide +kernel
theorem dX5_swap_37 : decode cX5_swap 37 = .ok (.aload_n 3, 1) := by decide +kernel
theorem dX5_swap_38 : decode cX5_swap 38 = .ok (.aload 4, 2) := by decide +kernel
theorem dX5_swap_40 : decode cX5_swap 40 = .ok (.invokevirtual 108, 3) := by decide +kernel
theorem dX5_swap_43 : decode cX5_swap 43 = .ok (.aload 4, 2) := by decide +kernel
theorem dX5_swap_45 : decode cX5_swap 45 = .ok (.aload_n 0, 1) := by decide +kernel
theorem dX5_swap_46 : decode cX5_swap 46 = .ok (.getfield 16, 3) := by decide +kernel
theorem dX5_swap_49 : decode cX5_swap 49 = .ok (.invokevirtual 108, 3) := by decide +kernel
theorem dX5_swap_52 : decode cX5_swap 52 = .ok (.aload_n 0, 1) := by decide +kernel
theorem dX5_swap_53 : decode cX5_swap 53 = .ok (.iload 5, 2) := by decide +kernel
theorem dX5_swap_55 : decode cX5_swap 55 = .ok (.ifCond .eq 7, 3) := by decide +kernel
theorem dX5_swap_58 : decode cX5_swap 58 = .ok (.iconst 1, 1) := by decide +kernel
theorem dX5_swap_59 : decode cX5_swap 59 = .ok (.goto 4, 3) := by decide +kernel
theorem dX5_swap_62 : decode cX5_swap 62 = .ok (.iconst 0, 1) := by decide +kernel
theorem dX5_swap_63 : decode cX5_swap 63 = .ok (.invokevirtual 68, 3) := by decide +kernel
theorem dX5_swap_66 : decode cX5_swap 66 = .ok (.ireturn, 1) := by decide +kernel
theorem dX5_flip_0 : decode cX5_flip 0 = .ok (.aload_n 0, 1) := by decide +kernel
theorem dX5_flip_1 : decode cX5_flip 1 = .ok (.iload_n 1, 1) := by decide +kernel
theorem dX5_flip_2 : decode cX5_flip 2 = .ok (.invokevirtual 48, 3) := by decide +kernel
theorem dX5_flip_5 : decode cX5_flip 5 = .ok (.astore_n 2, 1) := by decide +kernel
theorem dX5_flip_6 : decode cX5_flip 6 = .ok (.aload_n 0, 1) := by decide +kernel
theorem dX5_flip_7 : decode cX5_flip 7 = .ok (.getfield 16, 3) := by decide +kernel
theorem dX5_flip_10 : decode cX5_flip 10 = .ok (.aload_n 2, 1) := by decide +kernel
theorem dX5_flip_11 : decode cX5_flip 11 = .ok (.getfield 96, 3) := by decide +kernel
theorem dX5_flip_14 : decode cX5_flip 14 = .ok (.aload_n 2, 1) := by decide +kernel
theorem dX5_flip_15 : decode cX5_flip 15 = .ok (.getfield 92, 3) := by decide +kernel
theorem dX5_flip_18 : decode cX5_flip 18 = .ok (.invokevirtual 64, 3) := by decide +kernel
theorem dX5_flip_21 : decode cX5_flip 21 = .ok (.iconst 0, 1) := by decide +kernel
theorem dX5_flip_22 : decode cX5_flip 22 = .ok (.istore_n 3, 1) := by decide +kernel
theorem dX5_flip_23 : decode cX5_flip 23 = .ok (.iload_n 3, 1) := by decide +kernel
theorem dX5_flip_24 : decode cX5_flip 24 = .ok (.aload_n 2, 1) := by decide +kernel
theorem dX5_flip_25 : decode cX5_flip 25 = .ok (.getfield 92, 3) := by decide +kernel
theorem dX5_flip_28 : decode cX5_flip 28 = .ok (.if_icmp .ge 44, 3) := by decide +kernel
theorem dX5_flip_31 : decode cX5_flip 31 = .ok (.iconst 0, 1) := by decide +kernel
theorem dX5_flip_32 : decode cX5_flip 32 = .ok (.istore 4, 2) := by decide +kernel
theorem dX5_flip_34 : decode cX5_flip 34 = .ok (.iload 4, 2) := by decide +kernel
theorem dX5_flip_36 : decode cX5_flip 36 = .ok (.aload_n 2, 1) := by decide +kernel
theorem dX5_flip_37 : decode cX5_flip 37 = .ok (.getfield 96, 3) := by decide +kernel
theorem dX5_flip_40 : decode cX5_flip 40 = .ok (.if_icmp .ge 26, 3) := by decide +kernel
theorem dX5_flip_43 : decode cX5_flip 43 = .ok (.aload_n 0, 1) := by decide +kernel
theorem dX5_flip_44 : decode cX5_flip 44 = .ok (.getfield 16, 3) := by decide +kernel
theorem dX5_flip_47 : decode cX5_flip 47 = .ok (.iload 4, 2) := by decide +kernel
theorem dX5_flip_49 : decode cX5_flip 49 = .ok (.iload_n 3, 1) := by decide +kernel
theorem dX5_flip_50 : decode cX5_flip 50 = .ok (.aload_n 2, 1) := by decide +kernel
theorem dX5_flip_51 : decode cX5_flip 51 = .ok (.iload_n 3, 1) := by decide +kernel
theorem dX5_flip_52 : decode cX5_flip 52 = .ok (.iload 4, 2) := by decide +kernel
theorem dX5_flip_54 : decode cX5_flip 54 = .ok (.invokevirtual 83, 3) := by decide +kernel
theorem dX5_flip_57 : decode cX5_flip 57 = .ok (.invokevirtual 87, 3) := by decide +kernel
theorem dX5_flip_60 : decode cX5_flip 60 = .ok (.iinc 4 1, 3) := by decide +kernel
theorem dX5_flip_63 : decode cX5_flip 63 = .ok (.goto (-29), 3) := by decide +kernel
theorem dX5_flip_66 : decode cX5_flip 66 = .ok (.iinc 3 1, 3) := by decide +kernel
theorem dX5_flip_69 : decode cX5_flip 69 = .ok (.goto (-46), 3) := by decide +kernel
theorem dX5_flip_72 : decode cX5_flip 72 = .ok (.aload_n 2, 1) := by decide +kernel
theorem dX5_flip_73 : decode cX5_flip 73 = .ok (.aload_n 0, 1) := by decide +kernel
theorem dX5_flip_74 : decode cX5_flip 74 = .ok (.getfield 16, 3) := by decide +kernel
theorem dX5_flip_77 : decode cX5_flip 77 = .ok (.invokevirtual 108, 3) := by decide +kernel
theorem dX5_flip_80 : decode cX5_flip 80 = .ok (.aload_n 0, 1) := by decide +kernel
theorem dX5_flip_81 : decode cX5_flip 81 = .ok (.aload_n 2, 1) := by decide +kernel
theorem dX5_flip_82 : decode cX5_flip 82 = .ok (.getfield 92, 3) := by decide +kernel
theorem dX5_flip_85 : decode cX5_flip 85 = .ok (.invokevirtual 68, 3) := by decide +kernel
theorem dX5_flip_88 : decode cX5_flip 88 = .ok (.ireturn, 1) := by decide +kernel
theorem dX5_exchange_0 : decode cX5_exchange 0 = .ok (.aload_n 0, 1) := by decide +kernel
theorem dX5_exchange_1 : decode cX5_exchange 1 = .ok (.iload_n 1, 1) := by decide +kernel
theorem dX5_exchange_2 : decode cX5_exchange 2 = .ok (.invokevirtual 48, 3) := by decide +kernel
theorem dX5_exchange_5 : decode cX5_exchange 5 = .ok (.astore 5, 2) := by decide +kernel
theorem dX5_exchange_7 : decode cX5_exchange 7 = .ok (.aload 5, 2) := by decide +kernel
theorem dX5_exchange_9 : decode cX5_exchange 9 = .ok (.iload_n 2, 1) := by decide +kernel
theorem dX5_exchange_10 : decode cX5_exchange 10 = .ok (.iload_n 3, 1) := by decide +kernel
theorem dX5_exchange_11 : decode cX5_exchange 11 = .ok (.invokevirtual 76, 3) := by decide +kernel
theorem dX5_exchange_14 : decode cX5_exchange 14 = .ok (.ifCond .eq 18, 3) := by decide +kernel
theorem dX5_exchange_17 : decode cX5_exchange 17 = .ok (.aload 5, 2) := by decide +kernel
theorem dX5_exchange_19 : decode cX5_exchange 19 = .ok (.iload_n 2, 1) := by decide +kernel
theorem dX5_exchange_20 : decode cX5_exchange 20 = .ok (.iload 4, 2) := by decide +kernel
theorem dX5_exchange_22 : decode cX5_exchange 22 = .ok (.invokevirtual 76, 3) := by decide +kernel
theorem dX5_exchange_25 : decode cX5_exchange 25 = .ok (.ifCond .eq 7, 3) := by decide +kernel
theorem dX5_exchange_28 : decode cX5_exchange 28 = .ok (.iconst 1, 1) := by decide +kernel
theorem dX5_exchange_29 : decode cX5_exchange 29 = .ok (.goto 4, 3) := by decide +kernel
theorem dX5_exchange_32 : decode cX5_exchange 32 = .ok (.iconst 0, 1) := by decide +kernel
theorem dX5_exchange_33 : decode cX5_exchange 33 = .ok (.invokestatic 80, 3) := by decide +kernel
theorem dX5_exchange_36 : decode cX5_exchange 36 = .ok (.aload_n 0, 1) := by decide +kernel
theorem dX5_exchange_37 : decode cX5_exchange 37 = .ok (.getfield 16, 3) := by decide +kernel
theorem dX5_exchange_40 : decode cX5_exchange 40 = .ok (.aload 5, 2) := by decide +kernel
theorem dX5_exchange_42 : decode cX5_exchange 42 = .ok (.invokevirtual 108, 3) := by decide +kernel
theorem dX5_exchange_45 : decode cX5_exchange 45 = .ok (.aload_n 0, 1) := by decide +kernel
theorem dX5_exchange_46 : decode cX5_exchange 46 = .ok (.getfield 16, 3) := by decide +kernel
theorem dX5_exchange_49 : decode cX5_exchange 49 = .ok (.iload_n 2, 1) := by decide +kernel
theorem dX5_exchange_50 : decode cX5_exchange 50 = .ok (.iload_n 3, 1) := by decide +kernel
theorem dX5_exchange_51 : decode cX5_exchange 51 = .ok (.iload 4, 2) := by decide +kernel
theorem dX5_exchange_53 : decode cX5_exchange 53 = .ok (.invokevirtual 112, 3) := by decide +kernel
theorem dX5_exchange_56 : decode cX5_exchange 56 = .ok (.aload_n 0, 1) := by decide +kernel
theorem dX5_exchange_57 : decode cX5_exchange 57 = .ok (.aload 5, 2) := by decide +kernel
theorem dX5_exchange_59 : decode cX5_exchange 59 = .ok (.invokevirtual 116, 3) := by decide +kernel
theorem dX5_exchange_62 : decode cX5_exchange 62 = .ok (.ireturn, 1) := by decide +kernel
theorem dX5_turn_0 : decode cX5_turn 0 = .ok (.aload_n 0, 1) := by decide +kernel
theorem dX5_turn_1 : decode cX5_turn 1 = .ok (.iload_n 1, 1) := by decide +kernel
theorem dX5_turn_2 : decode cX5_turn 2 = .ok (.invokevirtual 48, 3) := by decide +kernel
theorem dX5_turn_5 : decode cX5_turn 5 = .ok (.astore 4, 2) := by decide +kernel
theorem dX5_turn_7 : decode cX5_turn 7 = .ok (.aload 4, 2) := by decide +kernel
theorem dX5_turn_9 : decode cX5_turn 9 = .ok (.iload_n 2, 1) := by decide +kernel
theorem dX5_turn_10 : decode cX5_turn 10 = .ok (.iload_n 3, 1) := by decide +kernel
theorem dX5_turn_11 : decode cX5_turn 11 = .ok (.invokevirtual 76, 3) := by decide +kernel
theorem dX5_turn_14 : decode cX5_turn 14 = .ok (.invokestatic 80, 3) := by decide +kernel
theorem dX5_turn_17 : decode cX5_turn 17 = .ok (.aload_n 0, 1) := by decide +kernel
theorem dX5_turn_18 : decode cX5_turn 18 = .ok (.getfield 16, 3) := by decide +kernel
theorem dX5_turn_21 : decode cX5_turn 21 = .ok (.aload 4, 2) := by decide +kernel
theorem dX5_turn_23 : decode cX5_turn 23 = .ok (.invokevirtual 108, 3) := by decide +kernel
theorem dX5_turn_26 : decode cX5_turn 26 = .ok (.aload_n 0, 1) := by decide +kernel
theorem dX5_turn_27 : decode cX5_turn 27 = .ok (.getfield 16, 3) := by decide +kernel
theorem dX5_turn_30 : decode cX5_turn 30 = .ok (.iload_n 2, 1) := by decide +kernel
theorem dX5_turn_31 : decode cX5_turn 31 = .ok (.iload_n 3, 1) := by decide +kernel
theorem dX5_turn_32 : decode cX5_turn 32 = .ok (.invokevirtual 120, 3) := by decide +kernel
theorem dX5_turn_35 : decode cX5_turn 35 = .ok (.aload_n 0, 1) := by decide +kernel
theorem dX5_turn_36 : decode cX5_turn 36 = .ok (.aload 4, 2) := by decide +kernel
theorem dX5_turn_38 : decode cX5_turn 38 = .ok (.invokevirtual 116, 3) := by decide +kernel
theorem dX5_turn_41 : decode cX5_turn 41 = .ok (.ireturn, 1) := by decide +kernel
theorem dX5_add_0 : decode cX5_add 0 = .ok (.aload_n 0, 1) := by decide +kernel
theorem dX5_add_1 : decode cX5_add 1 = .ok (.iload_n 1, 1) := by decide +kernel
theorem dX5_add_2 : decode cX5_add 2 = .ok (.invokevirtual 48, 3) := by decide +kernel
theorem dX5_add_5 : decode cX5_add 5 = .ok (.astore 6, 2) := by decide +kernel
theorem dX5_add_7 : decode cX5_add 7 = .ok (.aload 6, 2) := by decide +kernel
theorem dX5_add_9 : decode cX5_add 9 = .ok (.iload_n 2, 1) := by decide +kernel
theorem dX5_add_10 : decode cX5_add 10 = .ok (.iload_n 3, 1) := by decide +kernel
theorem dX5_add_11 : decode cX5_add 11 = .ok (.invokevirtual 76, 3) := by decide +kernel
theorem dX5_add_14 : decode cX5_add 14 = .ok (.ifCond .eq 18, 3) := by decide +kernel
theorem dX5_add_17 : decode cX5_add 17 = .ok (.aload 6, 2) := by decide +kernel
theorem dX5_add_19 : decode cX5_add 19 = .ok (.iload_n 2, 1) := by decide +kernel
theorem dX5_add_20 : decode cX5_add 20 = .ok (.iload 4, 2) := by decide +kernel
theorem dX5_add_22 : decode cX5_add 22 = .ok (.invokevirtual 76, 3) := by decide +kernel
theorem dX5_add_25 : decode cX5_add 25 = .ok (.ifCond .eq 7, 3) := by decide +kernel
theorem dX5_add_28 : decode cX5_add 28 = .ok (.iconst 1, 1) := by decide +kernel
theorem dX5_add_29 : decode cX5_add 29 = .ok (.goto 4, 3) := by decide +kernel
theorem dX5_add_32 : decode cX5_add 32 = .ok (.iconst 0, 1) := by decide +kernel
theorem dX5_add_33 : decode cX5_add 33 = .ok (.invokestatic 80, 3) := by decide +kernel
theorem dX5_add_36 : decode cX5_add 36 = .ok (.iload_n 3, 1) := by decide +kernel
theorem dX5_add_37 : decode cX5_add 37 = .ok (.iload 4, 2) := by decide +kernel
theorem dX5_add_39 : decode cX5_add 39 = .ok (.if_icmp .eq 21, 3) := by decide +kernel
theorem dX5_add_42 : decode cX5_add 42 = .ok (.iload 5, 2) := by decide +kernel
theorem dX5_add_44 : decode cX5_add 44 = .ok (.bipush (-20), 2) := by decide +kernel
theorem dX5_add_46 : decode cX5_add 46 = .ok (.if_icmp .lt 14, 3) := by decide +kernel
theorem dX5_add_49 : decode cX5_add 49 = .ok (.iload 5, 2) := by decide +kernel
theorem dX5_add_51 : decode cX5_add 51 = .ok (.bipush 20, 2) := by decide +kernel
theorem dX5_add_53 : decode cX5_add 53 = .ok (.if_icmp .gt 7, 3) := by decide +kernel
theorem dX5_add_56 : decode cX5_add 56 = .ok (.iconst 1, 1) := by decide +kernel
theorem dX5_add_57 : decode cX5_add 57 = .ok (.goto 4, 3) := by decide +kernel
theorem dX5_add_60 : decode cX5_add 60 = .ok (.iconst 0, 1) := by decide +kernel
theorem dX5_add_61 : decode cX5_add 61 = .ok (.invokestatic 56, 3) := by decide +kernel
theorem dX5_add_64 : decode cX5_add 64 = .ok (.aload_n 0, 1) := by decide +kernel
theorem dX5_add_65 : decode cX5_add 65 = .ok (.getfield 16, 3) := by decide +kernel
theorem dX5_add_68 : decode cX5_add 68 = .ok (.aload 6, 2) := by decide +kernel
theorem dX5_add_70 : decode cX5_add 70 = .ok (.invokevirtual 108, 3) := by decide +kernel
theorem dX5_add_73 : decode cX5_add 73 = .ok (.aload_n 0, 1) := by decide +kernel
theorem dX5_add_74 : decode cX5_add 74 = .ok (.getfield 16, 3) := by decide +kernel
theorem dX5_add_77 : decode cX5_add 77 = .ok (.iload_n 2, 1) := by decide +kernel
theorem dX5_add_78 : decode cX5_add 78 = .ok (.iload_n 3, 1) := by decide +kernel
theorem dX5_add_79 : decode cX5_add 79 = .ok (.iload 4, 2) := by decide +kernel
theorem dX5_add_81 : decode cX5_add 81 = .ok (.iload 5, 2) := by decide +kernel
theorem dX5_add_83 : decode cX5_add 83 = .ok (.i2l, 1) := by decide +kernel
theorem dX5_add_84 : decode cX5_add 84 = .ok (.invokevirtual 124, 3) := by decide +kernel
theorem dX5_add_87 : decode cX5_add 87 = .ok (.aload_n 0, 1) := by decide +kernel
theorem dX5_add_88 : decode cX5_add 88 = .ok (.aload 6, 2) := by decide +kernel
theorem dX5_add_90 : decode cX5_add 90 = .ok (.invokevirtual 116, 3) := by decide +kernel
theorem dX5_add_93 : decode cX5_add 93 = .ok (.ireturn, 1) := by decide +kernel
theorem dX5_widen_0 : decode cX5_widen 0 = .ok (.aload_n 0, 1) := by decide +kernel
theorem dX5_widen_1 : decode cX5_widen 1 = .ok (.iload_n 1, 1) := by decide +kernel
theorem dX5_widen_2 : decode cX5_widen 2 = .ok (.invokevirtual 48, 3) := by decide +kernel
theorem dX5_widen_5 : decode cX5_widen 5 = .ok (.astore_n 3, 1) := by decide +kernel
theorem dX5_widen_6 : decode cX5_widen 6 = .ok (.aload_n 3, 1) := by decide +kernel
theorem dX5_widen_7 : decode cX5_widen 7 = .ok (.iload_n 2, 1) := by decide +kernel
theorem dX5_widen_8 : decode cX5_widen 8 = .ok (.invokevirtual 128, 3) := by decide +kernel
theorem dX5_widen_11 : decode cX5_widen 11 = .ok (.istore 4, 2) := by decide +kernel
theorem dX5_widen_13 : decode cX5_widen 13 = .ok (.iload 4, 2) := by decide +kernel
theorem dX5_widen_15 : decode cX5_widen 15 = .ok (.iconst 4, 1) := by decide +kernel
theorem dX5_widen_16 : decode cX5_widen 16 = .ok (.if_icmp .lt 8, 3) := by decide +kernel
theorem dX5_widen_19 : decode cX5_widen 19 = .ok (.aload_n 0, 1) := by decide +kernel
theorem dX5_widen_20 : decode cX5_widen 20 = .ok (.invokevirtual 132, 3) := by decide +kernel
theorem dX5_widen_23 : decode cX5_widen 23 = .ok (.ireturn, 1) := by decide +kernel
theorem dX5_widen_24 : decode cX5_widen 24 = .ok (.aload_n 0, 1) := by decide +kernel
theorem dX5_widen_25 : decode cX5_widen 25 = .ok (.getfield 16, 3) := by decide +kernel
theorem dX5_widen_28 : decode cX5_widen 28 = .ok (.aload_n 3, 1) := by decide +kernel
theorem dX5_widen_29 : decode cX5_widen 29 = .ok (.invokevirtual 108, 3) := by decide +kernel
theorem dX5_widen_32 : decode cX5_widen 32 = .ok (.aload_n 3, 1) := by decide +kernel
theorem dX5_widen_33 : decode cX5_widen 33 = .ok (.iload_n 2, 1) := by decide +kernel
theorem dX5_widen_34 : decode cX5_widen 34 = .ok (.ifCond .eq 10, 3) := by decide +kernel
theorem dX5_widen_37 : decode cX5_widen 37 = .ok (.aload_n 3, 1) := by decide +kernel
theorem dX5_widen_38 : decode cX5_widen 38 = .ok (.getfield 92, 3) := by decide +kernel
theorem dX5_widen_41 : decode cX5_widen 41 = .ok (.goto 7, 3) := by decide +kernel
theorem dX5_widen_44 : decode cX5_widen 44 = .ok (.iload 4, 2) := by decide +kernel
theorem dX5_widen_46 : decode cX5_widen 46 = .ok (.iconst 1, 1) := by decide +kernel
theorem dX5_widen_47 : decode cX5_widen 47 = .ok (.iadd, 1) := by decide +kernel
theorem dX5_widen_48 : decode cX5_widen 48 = .ok (.iload_n 2, 1) := by decide +kernel
theorem dX5_widen_49 : decode cX5_widen 49 = .ok (.ifCond .eq 10, 3) := by decide +kernel
theorem dX5_widen_52 : decode cX5_widen 52 = .ok (.iload 4, 2) := by decide +kernel
theorem dX5_widen_54 : decode cX5_widen 54 = .ok (.iconst 1, 1) := by decide +kernel
theorem dX5_widen_55 : decode cX5_widen 55 = .ok (.iadd, 1) := by decide +kernel
theorem dX5_widen_56 : decode cX5_widen 56 = .ok (.goto 7, 3) := by decide +kernel
theorem dX5_widen_59 : decode cX5_widen 59 = .ok (.aload_n 3, 1) := by decide +kernel
theorem dX5_widen_60 : decode cX5_widen 60 = .ok (.getfield 96, 3) := by decide +kernel
theorem dX5_widen_63 : decode cX5_widen 63 = .ok (.invokevirtual 64, 3) := by decide +kernel
theorem dX5_widen_66 : decode cX5_widen 66 = .ok (.aload_n 3, 1) := by decide +kernel
theorem dX5_widen_67 : decode cX5_widen 67 = .ok (.aload_n 0, 1) := by decide +kernel
theorem dX5_widen_68 : decode cX5_widen 68 = .ok (.getfield 16, 3) := by decide +kernel
theorem dX5_widen_71 : decode cX5_widen 71 = .ok (.invokevirtual 135, 3) := by decide +kernel
theorem dX5_widen_74 : decode cX5_widen 74 = .ok (.aload_n 0, 1) := by decide +kernel
theorem dX5_widen_75 : decode cX5_widen 75 = .ok (.iload 4, 2) := by decide +kernel
theorem dX5_widen_77 : decode cX5_widen 77 = .ok (.iconst 1, 1) := by decide +kernel
theorem dX5_widen_78 : decode cX5_widen 78 = .ok (.iadd, 1) := by decide +kernel
theorem dX5_widen_79 : decode cX5_widen 79 = .ok (.invokevirtual 68, 3) := by decide +kernel
theorem dX5_widen_82 : decode cX5_widen 82 = .ok (.ireturn, 1) := by decide +kernel
theorem dX5_drop_0 : decode cX5_drop 0 = .ok (.aload_n 0, 1) := by decide +kernel
theorem dX5_drop_1 : decode cX5_drop 1 = .ok (.iload_n 1, 1) := by decide +kernel
theorem dX5_drop_2 : decode cX5_drop 2 = .ok (.invokevirtual 48, 3) := by decide +kernel
theorem dX5_drop_5 : decode cX5_drop 5 = .ok (.astore 4, 2) := by decide +kernel
theorem dX5_drop_7 : decode cX5_drop 7 = .ok (.aload 4, 2) := by decide +kernel
theorem dX5_drop_9 : decode cX5_drop 9 = .ok (.iload_n 2, 1) := by decide +kernel
theorem dX5_drop_10 : decode cX5_drop 10 = .ok (.iload_n 3, 1) := by decide +kernel
theorem dX5_drop_11 : decode cX5_drop 11 = .ok (.invokevirtual 76, 3) := by decide +kernel
theorem dX5_drop_14 : decode cX5_drop 14 = .ok (.invokestatic 80, 3) := by decide +kernel
theorem dX5_drop_17 : decode cX5_drop 17 = .ok (.aload 4, 2) := by decide +kernel
theorem dX5_drop_19 : decode cX5_drop 19 = .ok (.iload_n 2, 1) := by decide +kernel
theorem dX5_drop_20 : decode cX5_drop 20 = .ok (.invokevirtual 128, 3) := by decide +kernel
theorem dX5_drop_23 : decode cX5_drop 23 = .ok (.istore 5, 2) := by decide +kernel
theorem dX5_drop_25 : decode cX5_drop 25 = .ok (.iload 5, 2) := by decide +kernel
theorem dX5_drop_27 : decode cX5_drop 27 = .ok (.iconst 1, 1) := by decide +kernel
theorem dX5_drop_28 : decode cX5_drop 28 = .ok (.if_icmp .gt 8, 3) := by decide +kernel
theorem dX5_drop_31 : decode cX5_drop 31 = .ok (.aload_n 0, 1) := by decide +kernel
theorem dX5_drop_32 : decode cX5_drop 32 = .ok (.invokevirtual 132, 3) := by decide +kernel
theorem dX5_drop_35 : decode cX5_drop 35 = .ok (.ireturn, 1) := by decide +kernel
theorem dX5_drop_36 : decode cX5_drop 36 = .ok (.aload_n 0, 1) := by decide +kernel
theorem dX5_drop_37 : decode cX5_drop 37 = .ok (.getfield 16, 3) := by decide +kernel
theorem dX5_drop_40 : decode cX5_drop 40 = .ok (.aload 4, 2) := by decide +kernel
theorem dX5_drop_42 : decode cX5_drop 42 = .ok (.invokevirtual 108, 3) := by decide +kernel
theorem dX5_drop_45 : decode cX5_drop 45 = .ok (.iload_n 3, 1) := by decide +kernel
theorem dX5_drop_46 : decode cX5_drop 46 = .ok (.istore 6, 2) := by decide +kernel
theorem dX5_drop_48 : decode cX5_drop 48 = .ok (.iload 6, 2) := by decide +kernel
theorem dX5_drop_50 : decode cX5_drop 50 = .ok (.iload 5, 2) := by decide +kernel
theorem dX5_drop_52 : decode cX5_drop 52 = .ok (.iconst 1, 1) := by decide +kernel
theorem dX5_drop_53 : decode cX5_drop 53 = .ok (.isub, 1) := by decide +kernel
theorem dX5_drop_54 : decode cX5_drop 54 = .ok (.if_icmp .ge 23, 3) := by decide +kernel
theorem dX5_drop_57 : decode cX5_drop 57 = .ok (.aload_n 0, 1) := by decide +kernel
theorem dX5_drop_58 : decode cX5_drop 58 = .ok (.getfield 16, 3) := by decide +kernel
theorem dX5_drop_61 : decode cX5_drop 61 = .ok (.iload_n 2, 1) := by decide +kernel
theorem dX5_drop_62 : decode cX5_drop 62 = .ok (.iload 6, 2) := by decide +kernel
theorem dX5_drop_64 : decode cX5_drop 64 = .ok (.iload 6, 2) := by decide +kernel
theorem dX5_drop_66 : decode cX5_drop 66 = .ok (.iconst 1, 1) := by decide +kernel
theorem dX5_drop_67 : decode cX5_drop 67 = .ok (.iadd, 1) := by decide +kernel
theorem dX5_drop_68 : decode cX5_drop 68 = .ok (.invokevirtual 112, 3) := by decide +kernel
theorem dX5_drop_71 : decode cX5_drop 71 = .ok (.iinc 6 1, 3) := by decide +kernel
theorem dX5_drop_74 : decode cX5_drop 74 = .ok (.goto (-26), 3) := by decide +kernel
theorem dX5_drop_77 : decode cX5_drop 77 = .ok (.aload 4, 2) := by decide +kernel
theorem dX5_drop_79 : decode cX5_drop 79 = .ok (.iload_n 2, 1) := by decide +kernel
theorem dX5_drop_80 : decode cX5_drop 80 = .ok (.ifCond .eq 11, 3) := by decide +kernel
theorem dX5_drop_83 : decode cX5_drop 83 = .ok (.aload 4, 2) := by decide +kernel
theorem dX5_drop_85 : decode cX5_drop 85 = .ok (.getfield 92, 3) := by decide +kernel
theorem dX5_drop_88 : decode cX5_drop 88 = .ok (.goto 7, 3) := by decide +kernel
theorem dX5_drop_91 : decode cX5_drop 91 = .ok (.iload 5, 2) := by decide +kernel
theorem dX5_drop_93 : decode cX5_drop 93 = .ok (.iconst 1, 1) := by decide +kernel
theorem dX5_drop_94 : decode cX5_drop 94 = .ok (.isub, 1) := by decide +kernel
theorem dX5_drop_95 : decode cX5_drop 95 = .ok (.iload_n 2, 1) := by decide +kernel
theorem dX5_drop_96 : decode cX5_drop 96 = .ok (.ifCond .eq 10, 3) := by decide +kernel
theorem dX5_drop_99 : decode cX5_drop 99 = .ok (.iload 5, 2) := by decide +kernel
theorem dX5_drop_101 : decode cX5_drop 101 = .ok (.iconst 1, 1) := by decide +kernel
theorem dX5_drop_102 : decode cX5_drop 102 = .ok (.isub, 1) := by decide +kernel
theorem dX5_drop_103 : decode cX5_drop 103 = .ok (.goto 8, 3) := by decide +kernel
theorem dX5_drop_106 : decode cX5_drop 106 = .ok (.aload 4, 2) := by decide +kernel
theorem dX5_drop_108 : decode cX5_drop 108 = .ok (.getfield 96, 3) := by decide +kernel
theorem dX5_drop_111 : decode cX5_drop 111 = .ok (.invokevirtual 64, 3) := by decide +kernel
theorem dX5_drop_114 : decode cX5_drop 114 = .ok (.aload 4, 2) := by decide +kernel
theorem dX5_drop_116 : decode cX5_drop 116 = .ok (.aload_n 0, 1) := by decide +kernel
theorem dX5_drop_117 : decode cX5_drop 117 = .ok (.getfield 16, 3) := by decide +kernel
theorem dX5_drop_120 : decode cX5_drop 120 = .ok (.invokevirtual 135, 3) := by decide +kernel
theorem dX5_drop_123 : decode cX5_drop 123 = .ok (.aload_n 0, 1) := by decide +kernel
theorem dX5_drop_124 : decode cX5_drop 124 = .ok (.iload 5, 2) := by decide +kernel
theorem dX5_drop_126 : decode cX5_drop 126 = .ok (.iconst 1, 1) := by decide +kernel
theorem dX5_drop_127 : decode cX5_drop 127 = .ok (.isub, 1) := by decide +kernel
theorem dX5_drop_128 : decode cX5_drop 128 = .ok (.invokevirtual 68, 3) := by decide +kernel
theorem dX5_drop_131 : decode cX5_drop 131 = .ok (.ireturn, 1) := by decide +kernel
theorem dX5_sum_0 : decode cX5_sum 0 = .ok (.aload_n 0, 1) := by decide +kernel
theorem dX5_sum_1 : decode cX5_sum 1 = .ok (.iload_n 1, 1) := by decide +kernel
theorem dX5_sum_2 : decode cX5_sum 2 = .ok (.invokevirtual 48, 3) := by decide +kernel
theorem dX5_sum_5 : decode cX5_sum 5 = .ok (.astore 5, 2) := by decide +kernel
theorem dX5_sum_7 : decode cX5_sum 7 = .ok (.aload_n 0, 1) := by decide +kernel
theorem dX5_sum_8 : decode cX5_sum 8 = .ok (.iload_n 2, 1) := by decide +kernel
theorem dX5_sum_9 : decode cX5_sum 9 = .ok (.invokevirtual 48, 3) := by decide +kernel
theorem dX5_sum_12 : decode cX5_sum 12 = .ok (.astore 6, 2) := by decide +kernel
theorem dX5_sum_14 : decode cX5_sum 14 = .ok (.aload_n 0, 1) := by decide +kernel
theorem dX5_sum_15 : decode cX5_sum 15 = .ok (.iload 4, 2) := by decide +kernel
theorem dX5_sum_17 : decode cX5_sum 17 = .ok (.invokevirtual 48, 3) := by decide +kernel
theorem dX5_sum_20 : decode cX5_sum 20 = .ok (.astore 7, 2) := by decide +kernel
theorem dX5_sum_22 : decode cX5_sum 22 = .ok (.aload 5, 2) := by decide +kernel
theorem dX5_sum_24 : decode cX5_sum 24 = .ok (.getfield 92, 3) := by decide +kernel
theorem dX5_sum_27 : decode cX5_sum 27 = .ok (.aload 6, 2) := by decide +kernel
theorem dX5_sum_29 : decode cX5_sum 29 = .ok (.getfield 92, 3) := by decide +kernel
theorem dX5_sum_32 : decode cX5_sum 32 = .ok (.if_icmp .ne 16, 3) := by decide +kernel
theorem dX5_sum_35 : decode cX5_sum 35 = .ok (.aload 5, 2) := by decide +kernel
theorem dX5_sum_37 : decode cX5_sum 37 = .ok (.getfield 96, 3) := by decide +kernel
theorem dX5_sum_40 : decode cX5_sum 40 = .ok (.aload 6, 2) := by decide +kernel
theorem dX5_sum_42 : decode cX5_sum 42 = .ok (.getfield 96, 3) := by decide +kernel
theorem dX5_sum_45 : decode cX5_sum 45 = .ok (.if_icmp .eq 8, 3) := by decide +kernel
theorem dX5_sum_48 : decode cX5_sum 48 = .ok (.aload_n 0, 1) := by decide +kernel
theorem dX5_sum_49 : decode cX5_sum 49 = .ok (.invokevirtual 132, 3) := by decide +kernel
theorem dX5_sum_52 : decode cX5_sum 52 = .ok (.ireturn, 1) := by decide +kernel
theorem dX5_sum_53 : decode cX5_sum 53 = .ok (.aload_n 0, 1) := by decide +kernel
theorem dX5_sum_54 : decode cX5_sum 54 = .ok (.getfield 16, 3) := by decide +kernel
theorem dX5_sum_57 : decode cX5_sum 57 = .ok (.aload 5, 2) := by decide +kernel
theorem dX5_sum_59 : decode cX5_sum 59 = .ok (.getfield 92, 3) := by decide +kernel
theorem dX5_sum_62 : decode cX5_sum 62 = .ok (.aload 5, 2) := by decide +kernel
theorem dX5_sum_64 : decode cX5_sum 64 = .ok (.getfield 96, 3) := by decide +kernel
theorem dX5_sum_67 : decode cX5_sum 67 = .ok (.invokevirtual 64, 3) := by decide +kernel
theorem dX5_sum_70 : decode cX5_sum 70 = .ok (.iconst 0, 1) := by decide +kernel
theorem dX5_sum_71 : decode cX5_sum 71 = .ok (.istore 8, 2) := by decide +kernel
theorem dX5_sum_73 : decode cX5_sum 73 = .ok (.iload 8, 2) := by decide +kernel
theorem dX5_sum_75 : decode cX5_sum 75 = .ok (.aload 5, 2) := by decide +kernel
theorem dX5_sum_77 : decode cX5_sum 77 = .ok (.getfield 92, 3) := by decide +kernel
theorem dX5_sum_80 : decode cX5_sum 80 = .ok (.if_icmp .ge 72, 3) := by decide +kernel
theorem dX5_sum_83 : decode cX5_sum 83 = .ok (.iconst 0, 1) := by decide +kernel
theorem dX5_sum_84 : decode cX5_sum 84 = .ok (.istore 9, 2) := by decide +kernel
theorem dX5_sum_86 : decode cX5_sum 86 = .ok (.iload 9, 2) := by decide +kernel
theorem dX5_sum_88 : decode cX5_sum 88 = .ok (.aload 5, 2) := by decide +kernel
theorem dX5_sum_90 : decode cX5_sum 90 = .ok (.getfield 96, 3) := by decide +kernel
theorem dX5_sum_93 : decode cX5_sum 93 = .ok (.if_icmp .ge 53, 3) := by decide +kernel
theorem dX5_sum_96 : decode cX5_sum 96 = .ok (.aload 6, 2) := by decide +kernel
theorem dX5_sum_98 : decode cX5_sum 98 = .ok (.iload 8, 2) := by decide +kernel
theorem dX5_sum_100 : decode cX5_sum 100 = .ok (.iload 9, 2) := by decide +kernel
theorem dX5_sum_102 : decode cX5_sum 102 = .ok (.invokevirtual 83, 3) := by decide +kernel
theorem dX5_sum_105 : decode cX5_sum 105 = .ok (.lstore 10, 2) := by decide +kernel
theorem dX5_sum_107 : decode cX5_sum 107 = .ok (.aload_n 0, 1) := by decide +kernel
theorem dX5_sum_108 : decode cX5_sum 108 = .ok (.getfield 16, 3) := by decide +kernel
theorem dX5_sum_111 : decode cX5_sum 111 = .ok (.iload 8, 2) := by decide +kernel
theorem dX5_sum_113 : decode cX5_sum 113 = .ok (.iload 9, 2) := by decide +kernel
theorem dX5_sum_115 : decode cX5_sum 115 = .ok (.aload 5, 2) := by decide +kernel
theorem dX5_sum_117 : decode cX5_sum 117 = .ok (.iload 8, 2) := by decide +kernel
theorem dX5_sum_119 : decode cX5_sum 119 = .ok (.iload 9, 2) := by decide +kernel
theorem dX5_sum_121 : decode cX5_sum 121 = .ok (.invokevirtual 83, 3) := by decide +kernel
theorem dX5_sum_124 : decode cX5_sum 124 = .ok (.iload_n 3, 1) := by decide +kernel
theorem dX5_sum_125 : decode cX5_sum 125 = .ok (.ifCond .eq 9, 3) := by decide +kernel
theorem dX5_sum_128 : decode cX5_sum 128 = .ok (.lload 10, 2) := by decide +kernel
theorem dX5_sum_130 : decode cX5_sum 130 = .ok (.lneg, 1) := by decide +kernel
theorem dX5_sum_131 : decode cX5_sum 131 = .ok (.goto 5, 3) := by decide +kernel
theorem dX5_sum_134 : decode cX5_sum 134 = .ok (.lload 10, 2) := by decide +kernel
theorem dX5_sum_136 : decode cX5_sum 136 = .ok (.ladd, 1) := by decide +kernel
theorem dX5_sum_137 : decode cX5_sum 137 = .ok (.invokevirtual 87, 3) := by decide +kernel
theorem dX5_sum_140 : decode cX5_sum 140 = .ok (.iinc 9 1, 3) := by decide +kernel
theorem dX5_sum_143 : decode cX5_sum 143 = .ok (.goto (-57), 3) := by decide +kernel
theorem dX5_sum_146 : decode cX5_sum 146 = .ok (.iinc 8 1, 3) := by decide +kernel
theorem dX5_sum_149 : decode cX5_sum 149 = .ok (.goto (-76), 3) := by decide +kernel
theorem dX5_sum_152 : decode cX5_sum 152 = .ok (.aload_n 0, 1) := by decide +kernel
theorem dX5_sum_153 : decode cX5_sum 153 = .ok (.aload_n 0, 1) := by decide +kernel
theorem dX5_sum_154 : decode cX5_sum 154 = .ok (.getfield 16, 3) := by decide +kernel
theorem dX5_sum_157 : decode cX5_sum 157 = .ok (.aload 7, 2) := by decide +kernel
theorem dX5_sum_159 : decode cX5_sum 159 = .ok (.invokevirtual 138, 3) := by decide +kernel
theorem dX5_sum_162 : decode cX5_sum 162 = .ok (.ireturn, 1) := by decide +kernel
theorem dX5_multiply_0 : decode cX5_multiply 0 = .ok (.aload_n 0, 1) := by decide +kernel
theorem dX5_multiply_1 : decode cX5_multiply 1 = .ok (.iload_n 1, 1) := by decide +kernel
theorem dX5_multiply_2 : decode cX5_multiply 2 = .ok (.invokevirtual 48, 3) := by decide +kernel
theorem dX5_multiply_5 : decode cX5_multiply 5 = .ok (.astore 4, 2) := by decide +kernel
theorem dX5_multiply_7 : decode cX5_multiply 7 = .ok (.aload_n 0, 1) := by decide +kernel
theorem dX5_multiply_8 : decode cX5_multiply 8 = .ok (.iload_n 2, 1) := by decide +kernel
theorem dX5_multiply_9 : decode cX5_multiply 9 = .ok (.invokevirtual 48, 3) := by decide +kernel
theorem dX5_multiply_12 : decode cX5_multiply 12 = .ok (.astore 5, 2) := by decide +kernel
theorem dX5_multiply_14 : decode cX5_multiply 14 = .ok (.aload_n 0, 1) := by decide +kernel
theorem dX5_multiply_15 : decode cX5_multiply 15 = .ok (.iload_n 3, 1) := by decide +kernel
theorem dX5_multiply_16 : decode cX5_multiply 16 = .ok (.invokevirtual 48, 3) := by decide +kernel
theorem dX5_multiply_19 : decode cX5_multiply 19 = .ok (.astore 6, 2) := by decide +kernel
theorem dX5_multiply_21 : decode cX5_multiply 21 = .ok (.aload 4, 2) := by decide +kernel
theorem dX5_multiply_23 : decode cX5_multiply 23 = .ok (.getfield 96, 3) := by decide +kernel
theorem dX5_multiply_26 : decode cX5_multiply 26 = .ok (.aload 5, 2) := by decide +kernel
theorem dX5_multiply_28 : decode cX5_multiply 28 = .ok (.getfield 92, 3) := by decide +kernel
theorem dX5_multiply_31 : decode cX5_multiply 31 = .ok (.if_icmp .eq 8, 3) := by decide +kernel
theorem dX5_multiply_34 : decode cX5_multiply 34 = .ok (.aload_n 0, 1) := by decide +kernel
theorem dX5_multiply_35 : decode cX5_multiply 35 = .ok (.invokevirtual 132, 3) := by decide +kernel
theorem dX5_multiply_38 : decode cX5_multiply 38 = .ok (.ireturn, 1) := by decide +kernel
theorem dX5_multiply_39 : decode cX5_multiply 39 = .ok (.aload_n 0, 1) := by decide +kernel
theorem dX5_multiply_40 : decode cX5_multiply 40 = .ok (.getfield 16, 3) := by decide +kernel
theorem dX5_multiply_43 : decode cX5_multiply 43 = .ok (.aload 4, 2) := by decide +kernel
theorem dX5_multiply_45 : decode cX5_multiply 45 = .ok (.aload 5, 2) := by decide +kernel
theorem dX5_multiply_47 : decode cX5_multiply 47 = .ok (.invokevirtual 142, 3) := by decide +kernel
theorem dX5_multiply_50 : decode cX5_multiply 50 = .ok (.aload_n 0, 1) := by decide +kernel
theorem dX5_multiply_51 : decode cX5_multiply 51 = .ok (.aload_n 0, 1) := by decide +kernel
theorem dX5_multiply_52 : decode cX5_multiply 52 = .ok (.getfield 16, 3) := by decide +kernel
theorem dX5_multiply_55 : decode cX5_multiply 55 = .ok (.aload 6, 2) := by decide +kernel
theorem dX5_multiply_57 : decode cX5_multiply 57 = .ok (.invokevirtual 138, 3) := by decide +kernel
theorem dX5_multiply_60 : decode cX5_multiply 60 = .ok (.ireturn, 1) := by decide +kernel
theorem dX5_take_0 : decode cX5_take 0 = .ok (.aload_n 0, 1) := by decide +kernel
theorem dX5_take_1 : decode cX5_take 1 = .ok (.iload_n 1, 1) := by decide +kernel
theorem dX5_take_2 : decode cX5_take 2 = .ok (.invokevirtual 48, 3) := by decide +kernel
theorem dX5_take_5 : decode cX5_take 5 = .ok (.astore 4, 2) := by decide +kernel
theorem dX5_take_7 : decode cX5_take 7 = .ok (.aload_n 0, 1) := by decide +kernel
theorem dX5_take_8 : decode cX5_take 8 = .ok (.iload_n 3, 1) := by decide +kernel
theorem dX5_take_9 : decode cX5_take 9 = .ok (.invokevirtual 48, 3) := by decide +kernel
theorem dX5_take_12 : decode cX5_take 12 = .ok (.astore 5, 2) := by decide +kernel
theorem dX5_take_14 : decode cX5_take 14 = .ok (.iload_n 2, 1) := by decide +kernel
theorem dX5_take_15 : decode cX5_take 15 = .ok (.invokestatic 146, 3) := by decide +kernel
theorem dX5_take_18 : decode cX5_take 18 = .ok (.invokestatic 56, 3) := by decide +kernel
theorem dX5_take_21 : decode cX5_take 21 = .ok (.aload_n 0, 1) := by decide +kernel
theorem dX5_take_22 : decode cX5_take 22 = .ok (.aload 4, 2) := by decide +kernel
theorem dX5_take_24 : decode cX5_take 24 = .ok (.iload_n 2, 1) := by decide +kernel
theorem dX5_take_25 : decode cX5_take 25 = .ok (.invokevirtual 149, 3) := by decide +kernel
theorem dX5_take_28 : decode cX5_take 28 = .ok (.astore 6, 2) := by decide +kernel
theorem dX5_take_30 : decode cX5_take 30 = .ok (.aload 6, 2) := by decide +kernel
theorem dX5_take_32 : decode cX5_take 32 = .ok (.ifnonnull 8, 3) := by decide +kernel
theorem dX5_take_35 : decode cX5_take 35 = .ok (.aload_n 0, 1) := by decide +kernel
theorem dX5_take_36 : decode cX5_take 36 = .ok (.invokevirtual 132, 3) := by decide +kernel
theorem dX5_take_39 : decode cX5_take 39 = .ok (.ireturn, 1) := by decide +kernel
theorem dX5_take_40 : decode cX5_take 40 = .ok (.aload_n 0, 1) := by decide +kernel
theorem dX5_take_41 : decode cX5_take 41 = .ok (.aload 6, 2) := by decide +kernel
theorem dX5_take_43 : decode cX5_take 43 = .ok (.aload 5, 2) := by decide +kernel
theorem dX5_take_45 : decode cX5_take 45 = .ok (.invokevirtual 138, 3) := by decide +kernel
theorem dX5_take_48 : decode cX5_take 48 = .ok (.ireturn, 1) := by decide +kernel
theorem dX5_solve_0 : decode cX5_solve 0 = .ok (.aload_n 0, 1) := by decide +kernel
theorem dX5_solve_1 : decode cX5_solve 1 = .ok (.iload_n 1, 1) := by decide +kernel
theorem dX5_solve_2 : decode cX5_solve 2 = .ok (.invokevirtual 48, 3) := by decide +kernel
theorem dX5_solve_5 : decode cX5_solve 5 = .ok (.astore 5, 2) := by decide +kernel
theorem dX5_solve_7 : decode cX5_solve 7 = .ok (.aload_n 0, 1) := by decide +kernel
theorem dX5_solve_8 : decode cX5_solve 8 = .ok (.iload_n 2, 1) := by decide +kernel
theorem dX5_solve_9 : decode cX5_solve 9 = .ok (.invokevirtual 48, 3) := by decide +kernel
theorem dX5_solve_12 : decode cX5_solve 12 = .ok (.astore 6, 2) := by decide +kernel
theorem dX5_solve_14 : decode cX5_solve 14 = .ok (.aload_n 0, 1) := by decide +kernel
theorem dX5_solve_15 : decode cX5_solve 15 = .ok (.iload 4, 2) := by decide +kernel
theorem dX5_solve_17 : decode cX5_solve 17 = .ok (.invokevirtual 48, 3) := by decide +kernel
theorem dX5_solve_20 : decode cX5_solve 20 = .ok (.astore 7, 2) := by decide +kernel
theorem dX5_solve_22 : decode cX5_solve 22 = .ok (.aload 6, 2) := by decide +kernel
theorem dX5_solve_24 : decode cX5_solve 24 = .ok (.iconst 1, 1) := by decide +kernel
theorem dX5_solve_25 : decode cX5_solve 25 = .ok (.iload_n 3, 1) := by decide +kernel
theorem dX5_solve_26 : decode cX5_solve 26 = .ok (.invokevirtual 76, 3) := by decide +kernel
theorem dX5_solve_29 : decode cX5_solve 29 = .ok (.invokestatic 80, 3) := by decide +kernel
theorem dX5_solve_32 : decode cX5_solve 32 = .ok (.aload 5, 2) := by decide +kernel
theorem dX5_solve_34 : decode cX5_solve 34 = .ok (.getfield 92, 3) := by decide +kernel
theorem dX5_solve_37 : decode cX5_solve 37 = .ok (.aload 6, 2) := by decide +kernel
theorem dX5_solve_39 : decode cX5_solve 39 = .ok (.getfield 92, 3) := by decide +kernel
theorem dX5_solve_42 : decode cX5_solve 42 = .ok (.if_icmp .eq 8, 3) := by decide +kernel
theorem dX5_solve_45 : decode cX5_solve 45 = .ok (.aload_n 0, 1) := by decide +kernel
theorem dX5_solve_46 : decode cX5_solve 46 = .ok (.invokevirtual 132, 3) := by decide +kernel
theorem dX5_solve_49 : decode cX5_solve 49 = .ok (.ireturn, 1) := by decide +kernel
theorem dX5_solve_50 : decode cX5_solve 50 = .ok (.aload_n 0, 1) := by decide +kernel
theorem dX5_solve_51 : decode cX5_solve 51 = .ok (.getfield 33, 3) := by decide +kernel
theorem dX5_solve_54 : decode cX5_solve 54 = .ok (.aload 5, 2) := by decide +kernel
theorem dX5_solve_56 : decode cX5_solve 56 = .ok (.invokevirtual 153, 3) := by decide +kernel
theorem dX5_solve_59 : decode cX5_solve 59 = .ok (.aload_n 0, 1) := by decide +kernel
theorem dX5_solve_60 : decode cX5_solve 60 = .ok (.getfield 33, 3) := by decide +kernel
theorem dX5_solve_63 : decode cX5_solve 63 = .ok (.getfield 156, 3) := by decide +kernel
theorem dX5_solve_66 : decode cX5_solve 66 = .ok (.ifCond .ne 20, 3) := by decide +kernel
theorem dX5_solve_69 : decode cX5_solve 69 = .ok (.aload_n 0, 1) := by decide +kernel
theorem dX5_solve_70 : decode cX5_solve 70 = .ok (.getfield 40, 3) := by decide +kernel
theorem dX5_solve_73 : decode cX5_solve 73 = .ok (.aload_n 0, 1) := by decide +kernel
theorem dX5_solve_74 : decode cX5_solve 74 = .ok (.getfield 33, 3) := by decide +kernel
theorem dX5_solve_77 : decode cX5_solve 77 = .ok (.aload 6, 2) := by decide +kernel
theorem dX5_solve_79 : decode cX5_solve 79 = .ok (.iload_n 3, 1) := by decide +kernel
theorem dX5_solve_80 : decode cX5_solve 80 = .ok (.invokevirtual 160, 3) := by decide +kernel
theorem dX5_solve_83 : decode cX5_solve 83 = .ok (.ifCond .ne 8, 3) := by decide +kernel
theorem dX5_solve_86 : decode cX5_solve 86 = .ok (.aload_n 0, 1) := by decide +kernel
theorem dX5_solve_87 : decode cX5_solve 87 = .ok (.invokevirtual 132, 3) := by decide +kernel
theorem dX5_solve_90 : decode cX5_solve 90 = .ok (.ireturn, 1) := by decide +kernel
theorem dX5_solve_91 : decode cX5_solve 91 = .ok (.aload_n 0, 1) := by decide +kernel
theorem dX5_solve_92 : decode cX5_solve 92 = .ok (.getfield 40, 3) := by decide +kernel
theorem dX5_solve_95 : decode cX5_solve 95 = .ok (.aload_n 0, 1) := by decide +kernel
theorem dX5_solve_96 : decode cX5_solve 96 = .ok (.getfield 33, 3) := by decide +kernel
theorem dX5_solve_99 : decode cX5_solve 99 = .ok (.invokevirtual 164, 3) := by decide +kernel
theorem dX5_solve_102 : decode cX5_solve 102 = .ok (.ifCond .ne 8, 3) := by decide +kernel
theorem dX5_solve_105 : decode cX5_solve 105 = .ok (.aload_n 0, 1) := by decide +kernel
theorem dX5_solve_106 : decode cX5_solve 106 = .ok (.invokevirtual 132, 3) := by decide +kernel
theorem dX5_solve_109 : decode cX5_solve 109 = .ok (.ireturn, 1) := by decide +kernel
theorem dX5_solve_110 : decode cX5_solve 110 = .ok (.aload_n 0, 1) := by decide +kernel
theorem dX5_solve_111 : decode cX5_solve 111 = .ok (.aload_n 0, 1) := by decide +kernel
theorem dX5_solve_112 : decode cX5_solve 112 = .ok (.getfield 40, 3) := by decide +kernel
theorem dX5_solve_115 : decode cX5_solve 115 = .ok (.getfield 168, 3) := by decide +kernel
theorem dX5_solve_118 : decode cX5_solve 118 = .ok (.aload 7, 2) := by decide +kernel
theorem dX5_solve_120 : decode cX5_solve 120 = .ok (.invokevirtual 138, 3) := by decide +kernel
theorem dX5_solve_123 : decode cX5_solve 123 = .ok (.ireturn, 1) := by decide +kernel
theorem dX5_shape_0 : decode cX5_shape 0 = .ok (.aload_n 0, 1) := by decide +kernel
theorem dX5_shape_1 : decode cX5_shape 1 = .ok (.iload_n 1, 1) := by decide +kernel
theorem dX5_shape_2 : decode cX5_shape 2 = .ok (.invokevirtual 48, 3) := by decide +kernel
theorem dX5_shape_5 : decode cX5_shape 5 = .ok (.iload_n 2, 1) := by decide +kernel
theorem dX5_shape_6 : decode cX5_shape 6 = .ok (.invokevirtual 128, 3) := by decide +kernel
theorem dX5_shape_9 : decode cX5_shape 9 = .ok (.ireturn, 1) := by decide +kernel
theorem dX5_at_0 : decode cX5_at 0 = .ok (.aload_n 0, 1) := by decide +kernel
theorem dX5_at_1 : decode cX5_at 1 = .ok (.iload_n 1, 1) := by decide +kernel
theorem dX5_at_2 : decode cX5_at 2 = .ok (.invokevirtual 48, 3) := by decide +kernel
theorem dX5_at_5 : decode cX5_at 5 = .ok (.astore 4, 2) := by decide +kernel
theorem dX5_at_7 : decode cX5_at 7 = .ok (.aload 4, 2) := by decide +kernel
theorem dX5_at_9 : decode cX5_at 9 = .ok (.iconst 0, 1) := by decide +kernel
theorem dX5_at_10 : decode cX5_at 10 = .ok (.iload_n 2, 1) := by decide +kernel
theorem dX5_at_11 : decode cX5_at 11 = .ok (.invokevirtual 76, 3) := by decide +kernel
theorem dX5_at_14 : decode cX5_at 14 = .ok (.ifCond .eq 17, 3) := by decide +kernel
theorem dX5_at_17 : decode cX5_at 17 = .ok (.aload 4, 2) := by decide +kernel
theorem dX5_at_19 : decode cX5_at 19 = .ok (.iconst 1, 1) := by decide +kernel
theorem dX5_at_20 : decode cX5_at 20 = .ok (.iload_n 3, 1) := by decide +kernel
theorem dX5_at_21 : decode cX5_at 21 = .ok (.invokevirtual 76, 3) := by decide +kernel
theorem dX5_at_24 : decode cX5_at 24 = .ok (.ifCond .eq 7, 3) := by decide +kernel
theorem dX5_at_27 : decode cX5_at 27 = .ok (.iconst 1, 1) := by decide +kernel
theorem dX5_at_28 : decode cX5_at 28 = .ok (.goto 4, 3) := by decide +kernel
theorem dX5_at_31 : decode cX5_at 31 = .ok (.iconst 0, 1) := by decide +kernel
theorem dX5_at_32 : decode cX5_at 32 = .ok (.invokestatic 80, 3) := by decide +kernel
theorem dX5_at_35 : decode cX5_at 35 = .ok (.aload 4, 2) := by decide +kernel
theorem dX5_at_37 : decode cX5_at 37 = .ok (.iload_n 2, 1) := by decide +kernel
theorem dX5_at_38 : decode cX5_at 38 = .ok (.iload_n 3, 1) := by decide +kernel
theorem dX5_at_39 : decode cX5_at 39 = .ok (.invokevirtual 83, 3) := by decide +kernel
theorem dX5_at_42 : decode cX5_at 42 = .ok (.l2i, 1) := by decide +kernel
theorem dX5_at_43 : decode cX5_at 43 = .ok (.ireturn, 1) := by decide +kernel
theorem dX5_text_0 : decode cX5_text 0 = .ok (.aload_n 0, 1) := by decide +kernel
theorem dX5_text_1 : decode cX5_text 1 = .ok (.iload_n 1, 1) := by decide +kernel
theorem dX5_text_2 : decode cX5_text 2 = .ok (.invokevirtual 48, 3) := by decide +kernel
theorem dX5_text_5 : decode cX5_text 5 = .ok (.astore_n 2, 1) := by decide +kernel
theorem dX5_text_6 : decode cX5_text 6 = .ok (.new 171, 3) := by decide +kernel
theorem dX5_text_9 : decode cX5_text 9 = .ok (.dup, 1) := by decide +kernel
theorem dX5_text_10 : decode cX5_text 10 = .ok (.invokespecial 173, 3) := by decide +kernel
theorem dX5_text_13 : decode cX5_text 13 = .ok (.astore_n 3, 1) := by decide +kernel
theorem dX5_text_14 : decode cX5_text 14 = .ok (.iconst 0, 1) := by decide +kernel
theorem dX5_text_15 : decode cX5_text 15 = .ok (.istore 4, 2) := by decide +kernel
theorem dX5_text_17 : decode cX5_text 17 = .ok (.iload 4, 2) := by decide +kernel
theorem dX5_text_19 : decode cX5_text 19 = .ok (.aload_n 2, 1) := by decide +kernel
theorem dX5_text_20 : decode cX5_text 20 = .ok (.getfield 92, 3) := by decide +kernel
theorem dX5_text_23 : decode cX5_text 23 = .ok (.if_icmp .ge 65, 3) := by decide +kernel
theorem dX5_text_26 : decode cX5_text 26 = .ok (.iload 4, 2) := by decide +kernel
theorem dX5_text_28 : decode cX5_text 28 = .ok (.ifCond .le 10, 3) := by decide +kernel
theorem dX5_text_31 : decode cX5_text 31 = .ok (.aload_n 3, 1) := by decide +kernel
theorem dX5_text_32 : decode cX5_text 32 = .ok (.bipush 47, 2) := by decide +kernel
theorem dX5_text_34 : decode cX5_text 34 = .ok (.invokevirtual 174, 3) := by decide +kernel
theorem dX5_text_37 : decode cX5_text 37 = .ok (.pop, 1) := by decide +kernel
theorem dX5_text_38 : decode cX5_text 38 = .ok (.iconst 0, 1) := by decide +kernel
theorem dX5_text_39 : decode cX5_text 39 = .ok (.istore 5, 2) := by decide +kernel
theorem dX5_text_41 : decode cX5_text 41 = .ok (.iload 5, 2) := by decide +kernel
theorem dX5_text_43 : decode cX5_text 43 = .ok (.aload_n 2, 1) := by decide +kernel
theorem dX5_text_44 : decode cX5_text 44 = .ok (.getfield 96, 3) := by decide +kernel
theorem dX5_text_47 : decode cX5_text 47 = .ok (.if_icmp .ge 35, 3) := by decide +kernel
theorem dX5_text_50 : decode cX5_text 50 = .ok (.iload 5, 2) := by decide +kernel
theorem dX5_text_52 : decode cX5_text 52 = .ok (.ifCond .le 10, 3) := by decide +kernel
theorem dX5_text_55 : decode cX5_text 55 = .ok (.aload_n 3, 1) := by decide +kernel
theorem dX5_text_56 : decode cX5_text 56 = .ok (.bipush 32, 2) := by decide +kernel
theorem dX5_text_58 : decode cX5_text 58 = .ok (.invokevirtual 174, 3) := by decide +kernel
theorem dX5_text_61 : decode cX5_text 61 = .ok (.pop, 1) := by decide +kernel
theorem dX5_text_62 : decode cX5_text 62 = .ok (.aload_n 3, 1) := by decide +kernel
theorem dX5_text_63 : decode cX5_text 63 = .ok (.aload_n 2, 1) := by decide +kernel
theorem dX5_text_64 : decode cX5_text 64 = .ok (.iload 4, 2) := by decide +kernel
theorem dX5_text_66 : decode cX5_text 66 = .ok (.iload 5, 2) := by decide +kernel
theorem dX5_text_68 : decode cX5_text 68 = .ok (.invokevirtual 83, 3) := by decide +kernel
theorem dX5_text_71 : decode cX5_text 71 = .ok (.l2i, 1) := by decide +kernel
theorem dX5_text_72 : decode cX5_text 72 = .ok (.invokevirtual 178, 3) := by decide +kernel
theorem dX5_text_75 : decode cX5_text 75 = .ok (.pop, 1) := by decide +kernel
theorem dX5_text_76 : decode cX5_text 76 = .ok (.iinc 5 1, 3) := by decide +kernel
theorem dX5_text_79 : decode cX5_text 79 = .ok (.goto (-38), 3) := by decide +kernel
theorem dX5_text_82 : decode cX5_text 82 = .ok (.iinc 4 1, 3) := by decide +kernel
theorem dX5_text_85 : decode cX5_text 85 = .ok (.goto (-68), 3) := by decide +kernel
theorem dX5_text_88 : decode cX5_text 88 = .ok (.aload_n 3, 1) := by decide +kernel
theorem dX5_text_89 : decode cX5_text 89 = .ok (.invokevirtual 181, 3) := by decide +kernel
theorem dX5_text_92 : decode cX5_text 92 = .ok (.areturn, 1) := by decide +kernel
theorem dX5_isSame_0 : decode cX5_isSame 0 = .ok (.aload_n 0, 1) := by decide +kernel
theorem dX5_isSame_1 : decode cX5_isSame 1 = .ok (.iload_n 1, 1) := by decide +kernel
theorem dX5_isSame_2 : decode cX5_isSame 2 = .ok (.invokevirtual 48, 3) := by decide +kernel
theorem dX5_isSame_5 : decode cX5_isSame 5 = .ok (.astore_n 3, 1) := by decide +kernel
theorem dX5_isSame_6 : decode cX5_isSame 6 = .ok (.aload_n 0, 1) := by decide +kernel
theorem dX5_isSame_7 : decode cX5_isSame 7 = .ok (.iload_n 2, 1) := by decide +kernel
theorem dX5_isSame_8 : decode cX5_isSame 8 = .ok (.invokevirtual 48, 3) := by decide +kernel
theorem dX5_isSame_11 : decode cX5_isSame 11 = .ok (.astore 4, 2) := by decide +kernel
theorem dX5_isSame_13 : decode cX5_isSame 13 = .ok (.aload_n 3, 1) := by decide +kernel
theorem dX5_isSame_14 : decode cX5_isSame 14 = .ok (.aload 4, 2) := by decide +kernel
theorem dX5_isSame_16 : decode cX5_isSame 16 = .ok (.invokevirtual 104, 3) := by decide +kernel
theorem dX5_isSame_19 : decode cX5_isSame 19 = .ok (.ireturn, 1) := by decide +kernel
theorem dX5_determinant_0 : decode cX5_determinant 0 = .ok (.aload_n 0, 1) := by decide +kernel
theorem dX5_determinant_1 : decode cX5_determinant 1 = .ok (.iload_n 1, 1) := by decide +kernel
theorem dX5_determinant_2 : decode cX5_determinant 2 = .ok (.invokevirtual 48, 3) := by decide +kernel
theorem dX5_determinant_5 : decode cX5_determinant 5 = .ok (.astore_n 3, 1) := by decide +kernel
theorem dX5_determinant_6 : decode cX5_determinant 6 = .ok (.iload_n 2, 1) := by decide +kernel
theorem dX5_determinant_7 : decode cX5_determinant 7 = .ok (.ifCond .lt 12, 3) := by decide +kernel
theorem dX5_determinant_10 : decode cX5_determinant 10 = .ok (.iload_n 2, 1) := by decide +kernel
theorem dX5_determinant_11 : decode cX5_determinant 11 = .ok (.iconst 2, 1) := by decide +kernel
theorem dX5_determinant_12 : decode cX5_determinant 12 = .ok (.if_icmp .gt 7, 3) := by decide +kernel
theorem dX5_determinant_15 : decode cX5_determinant 15 = .ok (.iconst 1, 1) := by decide +kernel
theorem dX5_determinant_16 : decode cX5_determinant 16 = .ok (.goto 4, 3) := by decide +kernel
theorem dX5_determinant_19 : decode cX5_determinant 19 = .ok (.iconst 0, 1) := by decide +kernel
theorem dX5_determinant_20 : decode cX5_determinant 20 = .ok (.invokestatic 56, 3) := by decide +kernel
theorem dX5_determinant_23 : decode cX5_determinant 23 = .ok (.aload_n 3, 1) := by decide +kernel
theorem dX5_determinant_24 : decode cX5_determinant 24 = .ok (.getfield 92, 3) := by decide +kernel
theorem dX5_determinant_27 : decode cX5_determinant 27 = .ok (.aload_n 3, 1) := by decide +kernel
theorem dX5_determinant_28 : decode cX5_determinant 28 = .ok (.getfield 96, 3) := by decide +kernel
theorem dX5_determinant_31 : decode cX5_determinant 31 = .ok (.if_icmp .ne 7, 3) := by decide +kernel
theorem dX5_determinant_34 : decode cX5_determinant 34 = .ok (.iconst 1, 1) := by decide +kernel
theorem dX5_determinant_35 : decode cX5_determinant 35 = .ok (.goto 4, 3) := by decide +kernel
theorem dX5_determinant_38 : decode cX5_determinant 38 = .ok (.iconst 0, 1) := by decide +kernel
theorem dX5_determinant_39 : decode cX5_determinant 39 = .ok (.invokestatic 185, 3) := by decide +kernel
theorem dX5_determinant_42 : decode cX5_determinant 42 = .ok (.iload_n 2, 1) := by decide +kernel
theorem dX5_determinant_43 : decode cX5_determinant 43 = .ok (.ifCond .ne 9, 3) := by decide +kernel
theorem dX5_determinant_46 : decode cX5_determinant 46 = .ok (.aload_n 3, 1) := by decide +kernel
theorem dX5_determinant_47 : decode cX5_determinant 47 = .ok (.invokestatic 188, 3) := by decide +kernel
theorem dX5_determinant_50 : decode cX5_determinant 50 = .ok (.l2i, 1) := by decide +kernel
theorem dX5_determinant_51 : decode cX5_determinant 51 = .ok (.ireturn, 1) := by decide +kernel
theorem dX5_determinant_52 : decode cX5_determinant 52 = .ok (.iload_n 2, 1) := by decide +kernel
theorem dX5_determinant_53 : decode cX5_determinant 53 = .ok (.iconst 1, 1) := by decide +kernel
theorem dX5_determinant_54 : decode cX5_determinant 54 = .ok (.if_icmp .ne 11, 3) := by decide +kernel
theorem dX5_determinant_57 : decode cX5_determinant 57 = .ok (.aload_n 3, 1) := by decide +kernel
theorem dX5_determinant_58 : decode cX5_determinant 58 = .ok (.iconst 0, 1) := by decide +kernel
theorem dX5_determinant_59 : decode cX5_determinant 59 = .ok (.iconst 0, 1) := by decide +kernel
theorem dX5_determinant_60 : decode cX5_determinant 60 = .ok (.invokestatic 194, 3) := by decide +kernel
theorem dX5_determinant_63 : decode cX5_determinant 63 = .ok (.l2i, 1) := by decide +kernel
theorem dX5_determinant_64 : decode cX5_determinant 64 = .ok (.ireturn, 1) := by decide +kernel
theorem dX5_determinant_65 : decode cX5_determinant 65 = .ok (.aload_n 0, 1) := by decide +kernel
theorem dX5_determinant_66 : decode cX5_determinant 66 = .ok (.getfield 26, 3) := by decide +kernel
theorem dX5_determinant_69 : decode cX5_determinant 69 = .ok (.aload_n 3, 1) := by decide +kernel
theorem dX5_determinant_70 : decode cX5_determinant 70 = .ok (.invokevirtual 198, 3) := by decide +kernel
theorem dX5_determinant_73 : decode cX5_determinant 73 = .ok (.aload_n 0, 1) := by decide +kernel
theorem dX5_determinant_74 : decode cX5_determinant 74 = .ok (.getfield 26, 3) := by decide +kernel
theorem dX5_determinant_77 : decode cX5_determinant 77 = .ok (.getfield 199, 3) := by decide +kernel
theorem dX5_determinant_80 : decode cX5_determinant 80 = .ok (.ifCond .ne 7, 3) := by decide +kernel
theorem dX5_determinant_83 : decode cX5_determinant 83 = .ok (.iconst 1, 1) := by decide +kernel
theorem dX5_determinant_84 : decode cX5_determinant 84 = .ok (.goto 4, 3) := by decide +kernel
theorem dX5_determinant_87 : decode cX5_determinant 87 = .ok (.iconst 0, 1) := by decide +kernel
theorem dX5_determinant_88 : decode cX5_determinant 88 = .ok (.invokestatic 185, 3) := by decide +kernel
theorem dX5_determinant_91 : decode cX5_determinant 91 = .ok (.aload_n 0, 1) := by decide +kernel
theorem dX5_determinant_92 : decode cX5_determinant 92 = .ok (.getfield 26, 3) := by decide +kernel
theorem dX5_determinant_95 : decode cX5_determinant 95 = .ok (.invokevirtual 200, 3) := by decide +kernel
theorem dX5_determinant_98 : decode cX5_determinant 98 = .ok (.l2i, 1) := by decide +kernel
theorem dX5_determinant_99 : decode cX5_determinant 99 = .ok (.ireturn, 1) := by decide +kernel
theorem dX5_minor_0 : decode cX5_minor 0 = .ok (.aload_n 0, 1) := by decide +kernel
theorem dX5_minor_1 : decode cX5_minor 1 = .ok (.iload_n 1, 1) := by decide +kernel
theorem dX5_minor_2 : decode cX5_minor 2 = .ok (.invokevirtual 48, 3) := by decide +kernel
theorem dX5_minor_5 : decode cX5_minor 5 = .ok (.astore 4, 2) := by decide +kernel
theorem dX5_minor_7 : decode cX5_minor 7 = .ok (.iload_n 2, 1) := by decide +kernel
theorem dX5_minor_8 : decode cX5_minor 8 = .ok (.iconst 1, 1) := by decide +kernel
theorem dX5_minor_9 : decode cX5_minor 9 = .ok (.if_icmp .lt 34, 3) := by decide +kernel
theorem dX5_minor_12 : decode cX5_minor 12 = .ok (.iload_n 2, 1) := by decide +kernel
theorem dX5_minor_13 : decode cX5_minor 13 = .ok (.iconst 1, 1) := by decide +kernel
theorem dX5_minor_14 : decode cX5_minor 14 = .ok (.aload 4, 2) := by decide +kernel
theorem dX5_minor_16 : decode cX5_minor 16 = .ok (.getfield 92, 3) := by decide +kernel
theorem dX5_minor_19 : decode cX5_minor 19 = .ok (.ishl, 1) := by decide +kernel
theorem dX5_minor_20 : decode cX5_minor 20 = .ok (.if_icmp .ge 23, 3) := by decide +kernel
theorem dX5_minor_23 : decode cX5_minor 23 = .ok (.iload_n 3, 1) := by decide +kernel
theorem dX5_minor_24 : decode cX5_minor 24 = .ok (.iconst 1, 1) := by decide +kernel
theorem dX5_minor_25 : decode cX5_minor 25 = .ok (.if_icmp .lt 18, 3) := by decide +kernel
theorem dX5_minor_28 : decode cX5_minor 28 = .ok (.iload_n 3, 1) := by decide +kernel
theorem dX5_minor_29 : decode cX5_minor 29 = .ok (.iconst 1, 1) := by decide +kernel
theorem dX5_minor_30 : decode cX5_minor 30 = .ok (.aload 4, 2) := by decide +kernel
theorem dX5_minor_32 : decode cX5_minor 32 = .ok (.getfield 96, 3) := by decide +kernel
theorem dX5_minor_35 : decode cX5_minor 35 = .ok (.ishl, 1) := by decide +kernel
theorem dX5_minor_36 : decode cX5_minor 36 = .ok (.if_icmp .ge 7, 3) := by decide +kernel
theorem dX5_minor_39 : decode cX5_minor 39 = .ok (.iconst 1, 1) := by decide +kernel
theorem dX5_minor_40 : decode cX5_minor 40 = .ok (.goto 4, 3) := by decide +kernel
theorem dX5_minor_43 : decode cX5_minor 43 = .ok (.iconst 0, 1) := by decide +kernel
theorem dX5_minor_44 : decode cX5_minor 44 = .ok (.invokestatic 56, 3) := by decide +kernel
theorem dX5_minor_47 : decode cX5_minor 47 = .ok (.iload_n 2, 1) := by decide +kernel
theorem dX5_minor_48 : decode cX5_minor 48 = .ok (.invokestatic 204, 3) := by decide +kernel
theorem dX5_minor_51 : decode cX5_minor 51 = .ok (.iload_n 3, 1) := by decide +kernel
theorem dX5_minor_52 : decode cX5_minor 52 = .ok (.invokestatic 204, 3) := by decide +kernel
theorem dX5_minor_55 : decode cX5_minor 55 = .ok (.if_icmp .ne 7, 3) := by decide +kernel
theorem dX5_minor_58 : decode cX5_minor 58 = .ok (.iconst 1, 1) := by decide +kernel
theorem dX5_minor_59 : decode cX5_minor 59 = .ok (.goto 4, 3) := by decide +kernel
theorem dX5_minor_62 : decode cX5_minor 62 = .ok (.iconst 0, 1) := by decide +kernel
theorem dX5_minor_63 : decode cX5_minor 63 = .ok (.invokestatic 56, 3) := by decide +kernel
theorem dX5_minor_66 : decode cX5_minor 66 = .ok (.aload 4, 2) := by decide +kernel
theorem dX5_minor_68 : decode cX5_minor 68 = .ok (.iload_n 2, 1) := by decide +kernel
theorem dX5_minor_69 : decode cX5_minor 69 = .ok (.iload_n 3, 1) := by decide +kernel
theorem dX5_minor_70 : decode cX5_minor 70 = .ok (.iconst 0, 1) := by decide +kernel
theorem dX5_minor_71 : decode cX5_minor 71 = .ok (.invokestatic 209, 3) := by decide +kernel
theorem dX5_minor_74 : decode cX5_minor 74 = .ok (.l2i, 1) := by decide +kernel
theorem dX5_minor_75 : decode cX5_minor 75 = .ok (.ireturn, 1) := by decide +kernel
theorem dX5_divisor_0 : decode cX5_divisor 0 = .ok (.aload_n 0, 1) := by decide +kernel
theorem dX5_divisor_1 : decode cX5_divisor 1 = .ok (.iload_n 1, 1) := by decide +kernel
theorem dX5_divisor_2 : decode cX5_divisor 2 = .ok (.invokevirtual 48, 3) := by decide +kernel
theorem dX5_divisor_5 : decode cX5_divisor 5 = .ok (.astore_n 3, 1) := by decide +kernel
theorem dX5_divisor_6 : decode cX5_divisor 6 = .ok (.iload_n 2, 1) := by decide +kernel
theorem dX5_divisor_7 : decode cX5_divisor 7 = .ok (.ifCond .lt 23, 3) := by decide +kernel
theorem dX5_divisor_10 : decode cX5_divisor 10 = .ok (.iload_n 2, 1) := by decide +kernel
theorem dX5_divisor_11 : decode cX5_divisor 11 = .ok (.aload_n 3, 1) := by decide +kernel
theorem dX5_divisor_12 : decode cX5_divisor 12 = .ok (.getfield 92, 3) := by decide +kernel
theorem dX5_divisor_15 : decode cX5_divisor 15 = .ok (.if_icmp .gt 15, 3) := by decide +kernel
theorem dX5_divisor_18 : decode cX5_divisor 18 = .ok (.iload_n 2, 1) := by decide +kernel
theorem dX5_divisor_19 : decode cX5_divisor 19 = .ok (.aload_n 3, 1) := by decide +kernel
theorem dX5_divisor_20 : decode cX5_divisor 20 = .ok (.getfield 96, 3) := by decide +kernel
theorem dX5_divisor_23 : decode cX5_divisor 23 = .ok (.if_icmp .gt 7, 3) := by decide +kernel
theorem dX5_divisor_26 : decode cX5_divisor 26 = .ok (.iconst 1, 1) := by decide +kernel
theorem dX5_divisor_27 : decode cX5_divisor 27 = .ok (.goto 4, 3) := by decide +kernel
theorem dX5_divisor_30 : decode cX5_divisor 30 = .ok (.iconst 0, 1) := by decide +kernel
theorem dX5_divisor_31 : decode cX5_divisor 31 = .ok (.invokestatic 56, 3) := by decide +kernel
theorem dX5_divisor_34 : decode cX5_divisor 34 = .ok (.aload_n 3, 1) := by decide +kernel
theorem dX5_divisor_35 : decode cX5_divisor 35 = .ok (.iload_n 2, 1) := by decide +kernel
theorem dX5_divisor_36 : decode cX5_divisor 36 = .ok (.invokestatic 213, 3) := by decide +kernel
theorem dX5_divisor_39 : decode cX5_divisor 39 = .ok (.l2i, 1) := by decide +kernel
theorem dX5_divisor_40 : decode cX5_divisor 40 = .ok (.ireturn, 1) := by decide +kernel
theorem dX5_rank_0 : decode cX5_rank 0 = .ok (.aload_n 0, 1) := by decide +kernel
theorem dX5_rank_1 : decode cX5_rank 1 = .ok (.iload_n 1, 1) := by decide +kernel
theorem dX5_rank_2 : decode cX5_rank 2 = .ok (.invokevirtual 48, 3) := by decide +kernel
theorem dX5_rank_5 : decode cX5_rank 5 = .ok (.astore_n 3, 1) := by decide +kernel
theorem dX5_rank_6 : decode cX5_rank 6 = .ok (.iload_n 2, 1) := by decide +kernel
theorem dX5_rank_7 : decode cX5_rank 7 = .ok (.ifCond .eq 8, 3) := by decide +kernel
theorem dX5_rank_10 : decode cX5_rank 10 = .ok (.iload_n 2, 1) := by decide +kernel
theorem dX5_rank_11 : decode cX5_rank 11 = .ok (.iconst 1, 1) := by decide +kernel
theorem dX5_rank_12 : decode cX5_rank 12 = .ok (.if_icmp .ne 7, 3) := by decide +kernel
theorem dX5_rank_15 : decode cX5_rank 15 = .ok (.iconst 1, 1) := by decide +kernel
theorem dX5_rank_16 : decode cX5_rank 16 = .ok (.goto 4, 3) := by decide +kernel
theorem dX5_rank_19 : decode cX5_rank 19 = .ok (.iconst 0, 1) := by decide +kernel
theorem dX5_rank_20 : decode cX5_rank 20 = .ok (.invokestatic 56, 3) := by decide +kernel
theorem dX5_rank_23 : decode cX5_rank 23 = .ok (.iload_n 2, 1) := by decide +kernel
theorem dX5_rank_24 : decode cX5_rank 24 = .ok (.ifCond .ne 8, 3) := by decide +kernel
theorem dX5_rank_27 : decode cX5_rank 27 = .ok (.aload_n 3, 1) := by decide +kernel
theorem dX5_rank_28 : decode cX5_rank 28 = .ok (.invokestatic 217, 3) := by decide +kernel
theorem dX5_rank_31 : decode cX5_rank 31 = .ok (.ireturn, 1) := by decide +kernel
theorem dX5_rank_32 : decode cX5_rank 32 = .ok (.aload_n 0, 1) := by decide +kernel
theorem dX5_rank_33 : decode cX5_rank 33 = .ok (.getfield 26, 3) := by decide +kernel
theorem dX5_rank_36 : decode cX5_rank 36 = .ok (.aload_n 3, 1) := by decide +kernel
theorem dX5_rank_37 : decode cX5_rank 37 = .ok (.invokevirtual 198, 3) := by decide +kernel
theorem dX5_rank_40 : decode cX5_rank 40 = .ok (.aload_n 0, 1) := by decide +kernel
theorem dX5_rank_41 : decode cX5_rank 41 = .ok (.getfield 26, 3) := by decide +kernel
theorem dX5_rank_44 : decode cX5_rank 44 = .ok (.getfield 199, 3) := by decide +kernel
theorem dX5_rank_47 : decode cX5_rank 47 = .ok (.ifCond .ne 7, 3) := by decide +kernel
theorem dX5_rank_50 : decode cX5_rank 50 = .ok (.iconst 1, 1) := by decide +kernel
theorem dX5_rank_51 : decode cX5_rank 51 = .ok (.goto 4, 3) := by decide +kernel
theorem dX5_rank_54 : decode cX5_rank 54 = .ok (.iconst 0, 1) := by decide +kernel
theorem dX5_rank_55 : decode cX5_rank 55 = .ok (.invokestatic 185, 3) := by decide +kernel
theorem dX5_rank_58 : decode cX5_rank 58 = .ok (.aload_n 0, 1) := by decide +kernel
theorem dX5_rank_59 : decode cX5_rank 59 = .ok (.getfield 26, 3) := by decide +kernel
theorem dX5_rank_62 : decode cX5_rank 62 = .ok (.invokevirtual 220, 3) := by decide +kernel
theorem dX5_rank_65 : decode cX5_rank 65 = .ok (.ireturn, 1) := by decide +kernel
theorem dX5_told_0 : decode cX5_told 0 = .ok (.aload_n 0, 1) := by decide +kernel
theorem dX5_told_1 : decode cX5_told 1 = .ok (.iload_n 1, 1) := by decide +kernel
theorem dX5_told_2 : decode cX5_told 2 = .ok (.invokevirtual 48, 3) := by decide +kernel
theorem dX5_told_5 : decode cX5_told 5 = .ok (.astore 5, 2) := by decide +kernel
theorem dX5_told_7 : decode cX5_told 7 = .ok (.iload_n 2, 1) := by decide +kernel
theorem dX5_told_8 : decode cX5_told 8 = .ok (.invokestatic 146, 3) := by decide +kernel
theorem dX5_told_11 : decode cX5_told 11 = .ok (.invokestatic 56, 3) := by decide +kernel
theorem dX5_told_14 : decode cX5_told 14 = .ok (.iload_n 2, 1) := by decide +kernel
theorem dX5_told_15 : decode cX5_told 15 = .ok (.iconst 4, 1) := by decide +kernel
theorem dX5_told_16 : decode cX5_told 16 = .ok (.if_icmp .ne 11, 3) := by decide +kernel
theorem dX5_told_19 : decode cX5_told 19 = .ok (.aload 5, 2) := by decide +kernel
theorem dX5_told_21 : decode cX5_told 21 = .ok (.getfield 96, 3) := by decide +kernel
theorem dX5_told_24 : decode cX5_told 24 = .ok (.goto 8, 3) := by decide +kernel
theorem dX5_told_27 : decode cX5_told 27 = .ok (.aload 5, 2) := by decide +kernel
theorem dX5_told_29 : decode cX5_told 29 = .ok (.getfield 92, 3) := by decide +kernel
theorem dX5_told_32 : decode cX5_told 32 = .ok (.istore 6, 2) := by decide +kernel
theorem dX5_told_34 : decode cX5_told 34 = .ok (.iload_n 2, 1) := by decide +kernel
theorem dX5_told_35 : decode cX5_told 35 = .ok (.iconst 1, 1) := by decide +kernel
theorem dX5_told_36 : decode cX5_told 36 = .ok (.if_icmp .eq 8, 3) := by decide +kernel
theorem dX5_told_39 : decode cX5_told 39 = .ok (.iload_n 2, 1) := by decide +kernel
theorem dX5_told_40 : decode cX5_told 40 = .ok (.iconst 3, 1) := by decide +kernel
theorem dX5_told_41 : decode cX5_told 41 = .ok (.if_icmp .ne 11, 3) := by decide +kernel
theorem dX5_told_44 : decode cX5_told 44 = .ok (.aload 5, 2) := by decide +kernel
theorem dX5_told_46 : decode cX5_told 46 = .ok (.getfield 92, 3) := by decide +kernel
theorem dX5_told_49 : decode cX5_told 49 = .ok (.goto 8, 3) := by decide +kernel
theorem dX5_told_52 : decode cX5_told 52 = .ok (.aload 5, 2) := by decide +kernel
theorem dX5_told_54 : decode cX5_told 54 = .ok (.getfield 96, 3) := by decide +kernel
theorem dX5_told_57 : decode cX5_told 57 = .ok (.istore 7, 2) := by decide +kernel
theorem dX5_told_59 : decode cX5_told 59 = .ok (.iload_n 3, 1) := by decide +kernel
theorem dX5_told_60 : decode cX5_told 60 = .ok (.ifCond .lt 25, 3) := by decide +kernel
theorem dX5_told_63 : decode cX5_told 63 = .ok (.iload_n 3, 1) := by decide +kernel
theorem dX5_told_64 : decode cX5_told 64 = .ok (.iload 6, 2) := by decide +kernel
theorem dX5_told_66 : decode cX5_told 66 = .ok (.if_icmp .ge 19, 3) := by decide +kernel
theorem dX5_told_69 : decode cX5_told 69 = .ok (.iload 4, 2) := by decide +kernel
theorem dX5_told_71 : decode cX5_told 71 = .ok (.ifCond .lt 14, 3) := by decide +kernel
theorem dX5_told_74 : decode cX5_told 74 = .ok (.iload 4, 2) := by decide +kernel
theorem dX5_told_76 : decode cX5_told 76 = .ok (.iload 7, 2) := by decide +kernel
theorem dX5_told_78 : decode cX5_told 78 = .ok (.if_icmp .ge 7, 3) := by decide +kernel
theorem dX5_told_81 : decode cX5_told 81 = .ok (.iconst 1, 1) := by decide +kernel
theorem dX5_told_82 : decode cX5_told 82 = .ok (.goto 4, 3) := by decide +kernel
theorem dX5_told_85 : decode cX5_told 85 = .ok (.iconst 0, 1) := by decide +kernel
theorem dX5_told_86 : decode cX5_told 86 = .ok (.invokestatic 56, 3) := by decide +kernel
theorem dX5_told_89 : decode cX5_told 89 = .ok (.aload_n 0, 1) := by decide +kernel
theorem dX5_told_90 : decode cX5_told 90 = .ok (.aload 5, 2) := by decide +kernel
theorem dX5_told_92 : decode cX5_told 92 = .ok (.iload_n 2, 1) := by decide +kernel
theorem dX5_told_93 : decode cX5_told 93 = .ok (.invokevirtual 149, 3) := by decide +kernel
theorem dX5_told_96 : decode cX5_told 96 = .ok (.astore 8, 2) := by decide +kernel
theorem dX5_told_98 : decode cX5_told 98 = .ok (.aload 8, 2) := by decide +kernel
theorem dX5_told_100 : decode cX5_told 100 = .ok (.ifnonnull 13, 3) := by decide +kernel
theorem dX5_told_103 : decode cX5_told 103 = .ok (.new 223, 3) := by decide +kernel
theorem dX5_told_106 : decode cX5_told 106 = .ok (.dup, 1) := by decide +kernel
theorem dX5_told_107 : decode cX5_told 107 = .ok (.ldc 225, 2) := by decide +kernel
theorem dX5_told_109 : decode cX5_told 109 = .ok (.invokespecial 227, 3) := by decide +kernel
theorem dX5_told_112 : decode cX5_told 112 = .ok (.athrow, 1) := by decide +kernel
theorem dX5_told_113 : decode cX5_told 113 = .ok (.aload 8, 2) := by decide +kernel
theorem dX5_told_115 : decode cX5_told 115 = .ok (.iload_n 3, 1) := by decide +kernel
theorem dX5_told_116 : decode cX5_told 116 = .ok (.iload 4, 2) := by decide +kernel
theorem dX5_told_118 : decode cX5_told 118 = .ok (.invokevirtual 83, 3) := by decide +kernel
theorem dX5_told_121 : decode cX5_told 121 = .ok (.l2i, 1) := by decide +kernel
theorem dX5_told_122 : decode cX5_told 122 = .ok (.ireturn, 1) := by decide +kernel
theorem dX5_change_0 : decode cX5_change 0 = .ok (.aload_n 0, 1) := by decide +kernel
theorem dX5_change_1 : decode cX5_change 1 = .ok (.iload_n 1, 1) := by decide +kernel
theorem dX5_change_2 : decode cX5_change 2 = .ok (.invokevirtual 48, 3) := by decide +kernel
theorem dX5_change_5 : decode cX5_change 5 = .ok (.astore_n 3, 1) := by decide +kernel
theorem dX5_change_6 : decode cX5_change 6 = .ok (.iload_n 2, 1) := by decide +kernel
theorem dX5_change_7 : decode cX5_change 7 = .ok (.ifCond .lt 12, 3) := by decide +kernel
theorem dX5_change_10 : decode cX5_change 10 = .ok (.iload_n 2, 1) := by decide +kernel
theorem dX5_change_11 : decode cX5_change 11 = .ok (.iconst 4, 1) := by decide +kernel
theorem dX5_change_12 : decode cX5_change 12 = .ok (.if_icmp .gt 7, 3) := by decide +kernel
theorem dX5_change_15 : decode cX5_change 15 = .ok (.iconst 1, 1) := by decide +kernel
theorem dX5_change_16 : decode cX5_change 16 = .ok (.goto 4, 3) := by decide +kernel
theorem dX5_change_19 : decode cX5_change 19 = .ok (.iconst 0, 1) := by decide +kernel
theorem dX5_change_20 : decode cX5_change 20 = .ok (.invokestatic 56, 3) := by decide +kernel
theorem dX5_change_23 : decode cX5_change 23 = .ok (.iload_n 2, 1) := by decide +kernel
theorem dX5_change_24 : decode cX5_change 24 = .ok (.ifCond .ne 27, 3) := by decide +kernel
theorem dX5_change_27 : decode cX5_change 27 = .ok (.aload_n 0, 1) := by decide +kernel
theorem dX5_change_28 : decode cX5_change 28 = .ok (.getfield 26, 3) := by decide +kernel
theorem dX5_change_31 : decode cX5_change 31 = .ok (.aload_n 3, 1) := by decide +kernel
theorem dX5_change_32 : decode cX5_change 32 = .ok (.invokevirtual 198, 3) := by decide +kernel
theorem dX5_change_35 : decode cX5_change 35 = .ok (.aload_n 0, 1) := by decide +kernel
theorem dX5_change_36 : decode cX5_change 36 = .ok (.getfield 26, 3) := by decide +kernel
theorem dX5_change_39 : decode cX5_change 39 = .ok (.getfield 199, 3) := by decide +kernel
theorem dX5_change_42 : decode cX5_change 42 = .ok (.ifCond .eq 7, 3) := by decide +kernel
theorem dX5_change_45 : decode cX5_change 45 = .ok (.iconst 1, 1) := by decide +kernel
theorem dX5_change_46 : decode cX5_change 46 = .ok (.goto 4, 3) := by decide +kernel
theorem dX5_change_49 : decode cX5_change 49 = .ok (.iconst 0, 1) := by decide +kernel
theorem dX5_change_50 : decode cX5_change 50 = .ok (.ireturn, 1) := by decide +kernel
theorem dX5_change_51 : decode cX5_change 51 = .ok (.iload_n 2, 1) := by decide +kernel
theorem dX5_change_52 : decode cX5_change 52 = .ok (.iconst 1, 1) := by decide +kernel
theorem dX5_change_53 : decode cX5_change 53 = .ok (.if_icmp .ne 27, 3) := by decide +kernel
theorem dX5_change_56 : decode cX5_change 56 = .ok (.aload_n 0, 1) := by decide +kernel
theorem dX5_change_57 : decode cX5_change 57 = .ok (.getfield 33, 3) := by decide +kernel
theorem dX5_change_60 : decode cX5_change 60 = .ok (.aload_n 3, 1) := by decide +kernel
theorem dX5_change_61 : decode cX5_change 61 = .ok (.invokevirtual 153, 3) := by decide +kernel
theorem dX5_change_64 : decode cX5_change 64 = .ok (.aload_n 0, 1) := by decide +kernel
theorem dX5_change_65 : decode cX5_change 65 = .ok (.getfield 33, 3) := by decide +kernel
theorem dX5_change_68 : decode cX5_change 68 = .ok (.getfield 156, 3) := by decide +kernel
theorem dX5_change_71 : decode cX5_change 71 = .ok (.ifCond .eq 7, 3) := by decide +kernel
theorem dX5_change_74 : decode cX5_change 74 = .ok (.iconst 1, 1) := by decide +kernel
theorem dX5_change_75 : decode cX5_change 75 = .ok (.goto 4, 3) := by decide +kernel
theorem dX5_change_78 : decode cX5_change 78 = .ok (.iconst 0, 1) := by decide +kernel
theorem dX5_change_79 : decode cX5_change 79 = .ok (.ireturn, 1) := by decide +kernel
theorem dX5_change_80 : decode cX5_change 80 = .ok (.aload_n 0, 1) := by decide +kernel
theorem dX5_change_81 : decode cX5_change 81 = .ok (.aload_n 3, 1) := by decide +kernel
theorem dX5_change_82 : decode cX5_change 82 = .ok (.iload_n 2, 1) := by decide +kernel
theorem dX5_change_83 : decode cX5_change 83 = .ok (.iconst 2, 1) := by decide +kernel
theorem dX5_change_84 : decode cX5_change 84 = .ok (.if_icmp .ne 7, 3) := by decide +kernel
theorem dX5_change_87 : decode cX5_change 87 = .ok (.iconst 1, 1) := by decide +kernel
theorem dX5_change_88 : decode cX5_change 88 = .ok (.goto 13, 3) := by decide +kernel
theorem dX5_change_91 : decode cX5_change 91 = .ok (.iload_n 2, 1) := by decide +kernel
theorem dX5_change_92 : decode cX5_change 92 = .ok (.iconst 3, 1) := by decide +kernel
theorem dX5_change_93 : decode cX5_change 93 = .ok (.if_icmp .ne 7, 3) := by decide +kernel
theorem dX5_change_96 : decode cX5_change 96 = .ok (.iconst 3, 1) := by decide +kernel
theorem dX5_change_97 : decode cX5_change 97 = .ok (.goto 4, 3) := by decide +kernel
theorem dX5_change_100 : decode cX5_change 100 = .ok (.iconst 4, 1) := by decide +kernel
theorem dX5_change_101 : decode cX5_change 101 = .ok (.invokevirtual 149, 3) := by decide +kernel
theorem dX5_change_104 : decode cX5_change 104 = .ok (.astore 4, 2) := by decide +kernel
theorem dX5_change_106 : decode cX5_change 106 = .ok (.aload 4, 2) := by decide +kernel
theorem dX5_change_108 : decode cX5_change 108 = .ok (.ifnonnull 13, 3) := by decide +kernel
theorem dX5_change_111 : decode cX5_change 111 = .ok (.new 223, 3) := by decide +kernel
theorem dX5_change_114 : decode cX5_change 114 = .ok (.dup, 1) := by decide +kernel
theorem dX5_change_115 : decode cX5_change 115 = .ok (.ldc 225, 2) := by decide +kernel
theorem dX5_change_117 : decode cX5_change 117 = .ok (.invokespecial 227, 3) := by decide +kernel
theorem dX5_change_120 : decode cX5_change 120 = .ok (.athrow, 1) := by decide +kernel
theorem dX5_change_121 : decode cX5_change 121 = .ok (.aload 4, 2) := by decide +kernel
theorem dX5_change_123 : decode cX5_change 123 = .ok (.invokestatic 188, 3) := by decide +kernel
theorem dX5_change_126 : decode cX5_change 126 = .ok (.l2i, 1) := by decide +kernel
theorem dX5_change_127 : decode cX5_change 127 = .ok (.ireturn, 1) := by decide +kernel
theorem dX5_isSolvable_0 : decode cX5_isSolvable 0 = .ok (.aload_n 0, 1) := by decide +kernel
theorem dX5_isSolvable_1 : decode cX5_isSolvable 1 = .ok (.iload_n 1, 1) := by decide +kernel
theorem dX5_isSolvable_2 : decode cX5_isSolvable 2 = .ok (.invokevirtual 48, 3) := by decide +kernel
theorem dX5_isSolvable_5 : decode cX5_isSolvable 5 = .ok (.astore 5, 2) := by decide +kernel
theorem dX5_isSolvable_7 : decode cX5_isSolvable 7 = .ok (.aload_n 0, 1) := by decide +kernel
theorem dX5_isSolvable_8 : decode cX5_isSolvable 8 = .ok (.iload_n 2, 1) := by decide +kernel
theorem dX5_isSolvable_9 : decode cX5_isSolvable 9 = .ok (.invokevirtual 48, 3) := by decide +kernel
theorem dX5_isSolvable_12 : decode cX5_isSolvable 12 = .ok (.astore 6, 2) := by decide +kernel
theorem dX5_isSolvable_14 : decode cX5_isSolvable 14 = .ok (.aload 6, 2) := by decide +kernel
theorem dX5_isSolvable_16 : decode cX5_isSolvable 16 = .ok (.iconst 1, 1) := by decide +kernel
theorem dX5_isSolvable_17 : decode cX5_isSolvable 17 = .ok (.iload_n 3, 1) := by decide +kernel
theorem dX5_isSolvable_18 : decode cX5_isSolvable 18 = .ok (.invokevirtual 76, 3) := by decide +kernel
theorem dX5_isSolvable_21 : decode cX5_isSolvable 21 = .ok (.invokestatic 80, 3) := by decide +kernel
theorem dX5_isSolvable_24 : decode cX5_isSolvable 24 = .ok (.aload 5, 2) := by decide +kernel
theorem dX5_isSolvable_26 : decode cX5_isSolvable 26 = .ok (.getfield 92, 3) := by decide +kernel
theorem dX5_isSolvable_29 : decode cX5_isSolvable 29 = .ok (.aload 6, 2) := by decide +kernel
theorem dX5_isSolvable_31 : decode cX5_isSolvable 31 = .ok (.getfield 92, 3) := by decide +kernel
theorem dX5_isSolvable_34 : decode cX5_isSolvable 34 = .ok (.if_icmp .ne 18, 3) := by decide +kernel
theorem dX5_isSolvable_37 : decode cX5_isSolvable 37 = .ok (.iload 4, 2) := by decide +kernel
theorem dX5_isSolvable_39 : decode cX5_isSolvable 39 = .ok (.ifCond .eq 9, 3) := by decide +kernel
theorem dX5_isSolvable_42 : decode cX5_isSolvable 42 = .ok (.iload 4, 2) := by decide +kernel
theorem dX5_isSolvable_44 : decode cX5_isSolvable 44 = .ok (.iconst 1, 1) := by decide +kernel
theorem dX5_isSolvable_45 : decode cX5_isSolvable 45 = .ok (.if_icmp .ne 7, 3) := by decide +kernel
theorem dX5_isSolvable_48 : decode cX5_isSolvable 48 = .ok (.iconst 1, 1) := by decide +kernel
theorem dX5_isSolvable_49 : decode cX5_isSolvable 49 = .ok (.goto 4, 3) := by decide +kernel
theorem dX5_isSolvable_52 : decode cX5_isSolvable 52 = .ok (.iconst 0, 1) := by decide +kernel
theorem dX5_isSolvable_53 : decode cX5_isSolvable 53 = .ok (.invokestatic 56, 3) := by decide +kernel
theorem dX5_isSolvable_56 : decode cX5_isSolvable 56 = .ok (.iload 4, 2) := by decide +kernel
theorem dX5_isSolvable_58 : decode cX5_isSolvable 58 = .ok (.ifCond .ne 45, 3) := by decide +kernel
theorem dX5_isSolvable_61 : decode cX5_isSolvable 61 = .ok (.aload_n 0, 1) := by decide +kernel
theorem dX5_isSolvable_62 : decode cX5_isSolvable 62 = .ok (.getfield 33, 3) := by decide +kernel
theorem dX5_isSolvable_65 : decode cX5_isSolvable 65 = .ok (.aload 5, 2) := by decide +kernel
theorem dX5_isSolvable_67 : decode cX5_isSolvable 67 = .ok (.invokevirtual 153, 3) := by decide +kernel
theorem dX5_isSolvable_70 : decode cX5_isSolvable 70 = .ok (.aload_n 0, 1) := by decide +kernel
theorem dX5_isSolvable_71 : decode cX5_isSolvable 71 = .ok (.getfield 33, 3) := by decide +kernel
theorem dX5_isSolvable_74 : decode cX5_isSolvable 74 = .ok (.getfield 156, 3) := by decide +kernel
theorem dX5_isSolvable_77 : decode cX5_isSolvable 77 = .ok (.ifCond .ne 7, 3) := by decide +kernel
theorem dX5_isSolvable_80 : decode cX5_isSolvable 80 = .ok (.iconst 1, 1) := by decide +kernel
theorem dX5_isSolvable_81 : decode cX5_isSolvable 81 = .ok (.goto 4, 3) := by decide +kernel
theorem dX5_isSolvable_84 : decode cX5_isSolvable 84 = .ok (.iconst 0, 1) := by decide +kernel
theorem dX5_isSolvable_85 : decode cX5_isSolvable 85 = .ok (.invokestatic 185, 3) := by decide +kernel
theorem dX5_isSolvable_88 : decode cX5_isSolvable 88 = .ok (.aload_n 0, 1) := by decide +kernel
theorem dX5_isSolvable_89 : decode cX5_isSolvable 89 = .ok (.getfield 40, 3) := by decide +kernel
theorem dX5_isSolvable_92 : decode cX5_isSolvable 92 = .ok (.aload_n 0, 1) := by decide +kernel
theorem dX5_isSolvable_93 : decode cX5_isSolvable 93 = .ok (.getfield 33, 3) := by decide +kernel
theorem dX5_isSolvable_96 : decode cX5_isSolvable 96 = .ok (.aload 6, 2) := by decide +kernel
theorem dX5_isSolvable_98 : decode cX5_isSolvable 98 = .ok (.iload_n 3, 1) := by decide +kernel
theorem dX5_isSolvable_99 : decode cX5_isSolvable 99 = .ok (.invokevirtual 160, 3) := by decide +kernel
theorem dX5_isSolvable_102 : decode cX5_isSolvable 102 = .ok (.ireturn, 1) := by decide +kernel
theorem dX5_isSolvable_103 : decode cX5_isSolvable 103 = .ok (.aload_n 0, 1) := by decide +kernel
theorem dX5_isSolvable_104 : decode cX5_isSolvable 104 = .ok (.getfield 16, 3) := by decide +kernel
theorem dX5_isSolvable_107 : decode cX5_isSolvable 107 = .ok (.aload 5, 2) := by decide +kernel
theorem dX5_isSolvable_109 : decode cX5_isSolvable 109 = .ok (.getfield 92, 3) := by decide +kernel
theorem dX5_isSolvable_112 : decode cX5_isSolvable 112 = .ok (.aload 5, 2) := by decide +kernel
theorem dX5_isSolvable_114 : decode cX5_isSolvable 114 = .ok (.getfield 96, 3) := by decide +kernel
theorem dX5_isSolvable_117 : decode cX5_isSolvable 117 = .ok (.iconst 1, 1) := by decide +kernel
theorem dX5_isSolvable_118 : decode cX5_isSolvable 118 = .ok (.iadd, 1) := by decide +kernel
theorem dX5_isSolvable_119 : decode cX5_isSolvable 119 = .ok (.invokevirtual 64, 3) := by decide +kernel
theorem dX5_isSolvable_122 : decode cX5_isSolvable 122 = .ok (.aload_n 0, 1) := by decide +kernel
theorem dX5_isSolvable_123 : decode cX5_isSolvable 123 = .ok (.getfield 16, 3) := by decide +kernel
theorem dX5_isSolvable_126 : decode cX5_isSolvable 126 = .ok (.aload 5, 2) := by decide +kernel
theorem dX5_isSolvable_128 : decode cX5_isSolvable 128 = .ok (.invokevirtual 135, 3) := by decide +kernel
theorem dX5_isSolvable_131 : decode cX5_isSolvable 131 = .ok (.iconst 0, 1) := by decide +kernel
theorem dX5_isSolvable_132 : decode cX5_isSolvable 132 = .ok (.istore 7, 2) := by decide +kernel
theorem dX5_isSolvable_134 : decode cX5_isSolvable 134 = .ok (.iload 7, 2) := by decide +kernel
theorem dX5_isSolvable_136 : decode cX5_isSolvable 136 = .ok (.aload 5, 2) := by decide +kernel
theorem dX5_isSolvable_138 : decode cX5_isSolvable 138 = .ok (.getfield 92, 3) := by decide +kernel
theorem dX5_isSolvable_141 : decode cX5_isSolvable 141 = .ok (.if_icmp .ge 31, 3) := by decide +kernel
theorem dX5_isSolvable_144 : decode cX5_isSolvable 144 = .ok (.aload_n 0, 1) := by decide +kernel
theorem dX5_isSolvable_145 : decode cX5_isSolvable 145 = .ok (.getfield 16, 3) := by decide +kernel
theorem dX5_isSolvable_148 : decode cX5_isSolvable 148 = .ok (.iload 7, 2) := by decide +kernel
theorem dX5_isSolvable_150 : decode cX5_isSolvable 150 = .ok (.aload 5, 2) := by decide +kernel
theorem dX5_isSolvable_152 : decode cX5_isSolvable 152 = .ok (.getfield 96, 3) := by decide +kernel
theorem dX5_isSolvable_155 : decode cX5_isSolvable 155 = .ok (.aload 6, 2) := by decide +kernel
theorem dX5_isSolvable_157 : decode cX5_isSolvable 157 = .ok (.iload 7, 2) := by decide +kernel
theorem dX5_isSolvable_159 : decode cX5_isSolvable 159 = .ok (.iload_n 3, 1) := by decide +kernel
theorem dX5_isSolvable_160 : decode cX5_isSolvable 160 = .ok (.invokevirtual 83, 3) := by decide +kernel
theorem dX5_isSolvable_163 : decode cX5_isSolvable 163 = .ok (.invokevirtual 87, 3) := by decide +kernel
theorem dX5_isSolvable_166 : decode cX5_isSolvable 166 = .ok (.iinc 7 1, 3) := by decide +kernel
theorem dX5_isSolvable_169 : decode cX5_isSolvable 169 = .ok (.goto (-35), 3) := by decide +kernel
theorem dX5_isSolvable_172 : decode cX5_isSolvable 172 = .ok (.aload 5, 2) := by decide +kernel
theorem dX5_isSolvable_174 : decode cX5_isSolvable 174 = .ok (.invokestatic 217, 3) := by decide +kernel
theorem dX5_isSolvable_177 : decode cX5_isSolvable 177 = .ok (.istore 7, 2) := by decide +kernel
theorem dX5_isSolvable_179 : decode cX5_isSolvable 179 = .ok (.aload_n 0, 1) := by decide +kernel
theorem dX5_isSolvable_180 : decode cX5_isSolvable 180 = .ok (.getfield 16, 3) := by decide +kernel
theorem dX5_isSolvable_183 : decode cX5_isSolvable 183 = .ok (.invokestatic 217, 3) := by decide +kernel
theorem dX5_isSolvable_186 : decode cX5_isSolvable 186 = .ok (.iload 7, 2) := by decide +kernel
theorem dX5_isSolvable_188 : decode cX5_isSolvable 188 = .ok (.if_icmp .ne 27, 3) := by decide +kernel
theorem dX5_isSolvable_191 : decode cX5_isSolvable 191 = .ok (.aload_n 0, 1) := by decide +kernel
theorem dX5_isSolvable_192 : decode cX5_isSolvable 192 = .ok (.getfield 16, 3) := by decide +kernel
theorem dX5_isSolvable_195 : decode cX5_isSolvable 195 = .ok (.iload 7, 2) := by decide +kernel
theorem dX5_isSolvable_197 : decode cX5_isSolvable 197 = .ok (.invokestatic 213, 3) := by decide +kernel
theorem dX5_isSolvable_200 : decode cX5_isSolvable 200 = .ok (.aload 5, 2) := by decide +kernel
theorem dX5_isSolvable_202 : decode cX5_isSolvable 202 = .ok (.iload 7, 2) := by decide +kernel
theorem dX5_isSolvable_204 : decode cX5_isSolvable 204 = .ok (.invokestatic 213, 3) := by decide +kernel
theorem dX5_isSolvable_207 : decode cX5_isSolvable 207 = .ok (.lcmp, 1) := by decide +kernel
theorem dX5_isSolvable_208 : decode cX5_isSolvable 208 = .ok (.ifCond .ne 7, 3) := by decide +kernel
theorem dX5_isSolvable_211 : decode cX5_isSolvable 211 = .ok (.iconst 1, 1) := by decide +kernel
theorem dX5_isSolvable_212 : decode cX5_isSolvable 212 = .ok (.goto 4, 3) := by decide +kernel
theorem dX5_isSolvable_215 : decode cX5_isSolvable 215 = .ok (.iconst 0, 1) := by decide +kernel
theorem dX5_isSolvable_216 : decode cX5_isSolvable 216 = .ok (.ireturn, 1) := by decide +kernel
theorem dX5_restColumn_0 : decode cX5_restColumn 0 = .ok (.aload_n 0, 1) := by decide +kernel
theorem dX5_restColumn_1 : decode cX5_restColumn 1 = .ok (.iload_n 1, 1) := by decide +kernel
theorem dX5_restColumn_2 : decode cX5_restColumn 2 = .ok (.invokevirtual 48, 3) := by decide +kernel
theorem dX5_restColumn_5 : decode cX5_restColumn 5 = .ok (.astore 4, 2) := by decide +kernel
theorem dX5_restColumn_7 : decode cX5_restColumn 7 = .ok (.aload_n 0, 1) := by decide +kernel
theorem dX5_restColumn_8 : decode cX5_restColumn 8 = .ok (.getfield 33, 3) := by decide +kernel
theorem dX5_restColumn_11 : decode cX5_restColumn 11 = .ok (.aload 4, 2) := by decide +kernel
theorem dX5_restColumn_13 : decode cX5_restColumn 13 = .ok (.invokevirtual 153, 3) := by decide +kernel
theorem dX5_restColumn_16 : decode cX5_restColumn 16 = .ok (.aload_n 0, 1) := by decide +kernel
theorem dX5_restColumn_17 : decode cX5_restColumn 17 = .ok (.getfield 33, 3) := by decide +kernel
theorem dX5_restColumn_20 : decode cX5_restColumn 20 = .ok (.getfield 156, 3) := by decide +kernel
theorem dX5_restColumn_23 : decode cX5_restColumn 23 = .ok (.ifCond .ne 7, 3) := by decide +kernel
theorem dX5_restColumn_26 : decode cX5_restColumn 26 = .ok (.iconst 1, 1) := by decide +kernel
theorem dX5_restColumn_27 : decode cX5_restColumn 27 = .ok (.goto 4, 3) := by decide +kernel
theorem dX5_restColumn_30 : decode cX5_restColumn 30 = .ok (.iconst 0, 1) := by decide +kernel
theorem dX5_restColumn_31 : decode cX5_restColumn 31 = .ok (.invokestatic 185, 3) := by decide +kernel
theorem dX5_restColumn_34 : decode cX5_restColumn 34 = .ok (.aload_n 0, 1) := by decide +kernel
theorem dX5_restColumn_35 : decode cX5_restColumn 35 = .ok (.getfield 33, 3) := by decide +kernel
theorem dX5_restColumn_38 : decode cX5_restColumn 38 = .ok (.invokevirtual 230, 3) := by decide +kernel
theorem dX5_restColumn_41 : decode cX5_restColumn 41 = .ok (.istore 5, 2) := by decide +kernel
theorem dX5_restColumn_43 : decode cX5_restColumn 43 = .ok (.iload_n 2, 1) := by decide +kernel
theorem dX5_restColumn_44 : decode cX5_restColumn 44 = .ok (.ifCond .lt 32, 3) := by decide +kernel
theorem dX5_restColumn_47 : decode cX5_restColumn 47 = .ok (.iload_n 2, 1) := by decide +kernel
theorem dX5_restColumn_48 : decode cX5_restColumn 48 = .ok (.aload 4, 2) := by decide +kernel
theorem dX5_restColumn_50 : decode cX5_restColumn 50 = .ok (.getfield 96, 3) := by decide +kernel
theorem dX5_restColumn_53 : decode cX5_restColumn 53 = .ok (.iload 5, 2) := by decide +kernel
theorem dX5_restColumn_55 : decode cX5_restColumn 55 = .ok (.isub, 1) := by decide +kernel
theorem dX5_restColumn_56 : decode cX5_restColumn 56 = .ok (.if_icmp .ge 20, 3) := by decide +kernel
theorem dX5_restColumn_59 : decode cX5_restColumn 59 = .ok (.iload_n 3, 1) := by decide +kernel
theorem dX5_restColumn_60 : decode cX5_restColumn 60 = .ok (.ifCond .lt 16, 3) := by decide +kernel
theorem dX5_restColumn_63 : decode cX5_restColumn 63 = .ok (.iload_n 3, 1) := by decide +kernel
theorem dX5_restColumn_64 : decode cX5_restColumn 64 = .ok (.aload 4, 2) := by decide +kernel
theorem dX5_restColumn_66 : decode cX5_restColumn 66 = .ok (.getfield 96, 3) := by decide +kernel
theorem dX5_restColumn_69 : decode cX5_restColumn 69 = .ok (.if_icmp .ge 7, 3) := by decide +kernel
theorem dX5_restColumn_72 : decode cX5_restColumn 72 = .ok (.iconst 1, 1) := by decide +kernel
theorem dX5_restColumn_73 : decode cX5_restColumn 73 = .ok (.goto 4, 3) := by decide +kernel
theorem dX5_restColumn_76 : decode cX5_restColumn 76 = .ok (.iconst 0, 1) := by decide +kernel
theorem dX5_restColumn_77 : decode cX5_restColumn 77 = .ok (.invokestatic 56, 3) := by decide +kernel
theorem dX5_restColumn_80 : decode cX5_restColumn 80 = .ok (.aload_n 0, 1) := by decide +kernel
theorem dX5_restColumn_81 : decode cX5_restColumn 81 = .ok (.getfield 33, 3) := by decide +kernel
theorem dX5_restColumn_84 : decode cX5_restColumn 84 = .ok (.getfield 233, 3) := by decide +kernel
theorem dX5_restColumn_87 : decode cX5_restColumn 87 = .ok (.iload_n 3, 1) := by decide +kernel
theorem dX5_restColumn_88 : decode cX5_restColumn 88 = .ok (.iload 5, 2) := by decide +kernel
theorem dX5_restColumn_90 : decode cX5_restColumn 90 = .ok (.iload_n 2, 1) := by decide +kernel
theorem dX5_restColumn_91 : decode cX5_restColumn 91 = .ok (.iadd, 1) := by decide +kernel
theorem dX5_restColumn_92 : decode cX5_restColumn 92 = .ok (.invokevirtual 83, 3) := by decide +kernel
theorem dX5_restColumn_95 : decode cX5_restColumn 95 = .ok (.l2i, 1) := by decide +kernel
theorem dX5_restColumn_96 : decode cX5_restColumn 96 = .ok (.ireturn, 1) := by decide +kernel
theorem dX5_rest_0 : decode cX5_rest 0 = .ok (.aload_n 0, 1) := by decide +kernel
theorem dX5_rest_1 : decode cX5_rest 1 = .ok (.iload_n 1, 1) := by decide +kernel
theorem dX5_rest_2 : decode cX5_rest 2 = .ok (.invokevirtual 48, 3) := by decide +kernel
theorem dX5_rest_5 : decode cX5_rest 5 = .ok (.astore_n 3, 1) := by decide +kernel
theorem dX5_rest_6 : decode cX5_rest 6 = .ok (.aload_n 0, 1) := by decide +kernel
theorem dX5_rest_7 : decode cX5_rest 7 = .ok (.aload_n 3, 1) := by decide +kernel
theorem dX5_rest_8 : decode cX5_rest 8 = .ok (.invokevirtual 236, 3) := by decide +kernel
theorem dX5_rest_11 : decode cX5_rest 11 = .ok (.invokestatic 185, 3) := by decide +kernel
theorem dX5_rest_14 : decode cX5_rest 14 = .ok (.iload_n 2, 1) := by decide +kernel
theorem dX5_rest_15 : decode cX5_rest 15 = .ok (.i2l, 1) := by decide +kernel
theorem dX5_rest_16 : decode cX5_rest 16 = .ok (.lstore 4, 2) := by decide +kernel
theorem dX5_rest_18 : decode cX5_rest 18 = .ok (.aload_n 3, 1) := by decide +kernel
theorem dX5_rest_19 : decode cX5_rest 19 = .ok (.getfield 96, 3) := by decide +kernel
theorem dX5_rest_22 : decode cX5_rest 22 = .ok (.iconst 1, 1) := by decide +kernel
theorem dX5_rest_23 : decode cX5_rest 23 = .ok (.isub, 1) := by decide +kernel
theorem dX5_rest_24 : decode cX5_rest 24 = .ok (.istore 6, 2) := by decide +kernel
theorem dX5_rest_26 : decode cX5_rest 26 = .ok (.iload 6, 2) := by decide +kernel
theorem dX5_rest_28 : decode cX5_rest 28 = .ok (.ifCond .lt 47, 3) := by decide +kernel
theorem dX5_rest_31 : decode cX5_rest 31 = .ok (.aload_n 0, 1) := by decide +kernel
theorem dX5_rest_32 : decode cX5_rest 32 = .ok (.getfield 26, 3) := by decide +kernel
theorem dX5_rest_35 : decode cX5_rest 35 = .ok (.getfield 239, 3) := by decide +kernel
theorem dX5_rest_38 : decode cX5_rest 38 = .ok (.iload 6, 2) := by decide +kernel
theorem dX5_rest_40 : decode cX5_rest 40 = .ok (.iload 6, 2) := by decide +kernel
theorem dX5_rest_42 : decode cX5_rest 42 = .ok (.invokevirtual 83, 3) := by decide +kernel
theorem dX5_rest_45 : decode cX5_rest 45 = .ok (.lstore 7, 2) := by decide +kernel
theorem dX5_rest_47 : decode cX5_rest 47 = .ok (.aload_n 0, 1) := by decide +kernel
theorem dX5_rest_48 : decode cX5_rest 48 = .ok (.iload 6, 2) := by decide +kernel
theorem dX5_rest_50 : decode cX5_rest 50 = .ok (.lload 4, 2) := by decide +kernel
theorem dX5_rest_52 : decode cX5_rest 52 = .ok (.lload 7, 2) := by decide +kernel
theorem dX5_rest_54 : decode cX5_rest 54 = .ok (.invokestatic 100, 3) := by decide +kernel
theorem dX5_rest_57 : decode cX5_rest 57 = .ok (.invokevirtual 242, 3) := by decide +kernel
theorem dX5_rest_60 : decode cX5_rest 60 = .ok (.lload 4, 2) := by decide +kernel
theorem dX5_rest_62 : decode cX5_rest 62 = .ok (.lload 7, 2) := by decide +kernel
theorem dX5_rest_64 : decode cX5_rest 64 = .ok (.invokestatic 246, 3) := by decide +kernel
theorem dX5_rest_67 : decode cX5_rest 67 = .ok (.lstore 4, 2) := by decide +kernel
theorem dX5_rest_69 : decode cX5_rest 69 = .ok (.iinc 6 (-1), 3) := by decide +kernel
theorem dX5_rest_72 : decode cX5_rest 72 = .ok (.goto (-46), 3) := by decide +kernel
theorem dX5_rest_75 : decode cX5_rest 75 = .ok (.iload_n 2, 1) := by decide +kernel
theorem dX5_rest_76 : decode cX5_rest 76 = .ok (.ifCond .lt 14, 3) := by decide +kernel
theorem dX5_rest_79 : decode cX5_rest 79 = .ok (.lload 4, 2) := by decide +kernel
theorem dX5_rest_81 : decode cX5_rest 81 = .ok (.lconst 0, 1) := by decide +kernel
theorem dX5_rest_82 : decode cX5_rest 82 = .ok (.lcmp, 1) := by decide +kernel
theorem dX5_rest_83 : decode cX5_rest 83 = .ok (.ifCond .ne 7, 3) := by decide +kernel
theorem dX5_rest_86 : decode cX5_rest 86 = .ok (.iconst 1, 1) := by decide +kernel
theorem dX5_rest_87 : decode cX5_rest 87 = .ok (.goto 4, 3) := by decide +kernel
theorem dX5_rest_90 : decode cX5_rest 90 = .ok (.iconst 0, 1) := by decide +kernel
theorem dX5_rest_91 : decode cX5_rest 91 = .ok (.invokestatic 56, 3) := by decide +kernel
theorem dX5_rest_94 : decode cX5_rest 94 = .ok (.new 171, 3) := by decide +kernel
theorem dX5_rest_97 : decode cX5_rest 97 = .ok (.dup, 1) := by decide +kernel
theorem dX5_rest_98 : decode cX5_rest 98 = .ok (.invokespecial 173, 3) := by decide +kernel
theorem dX5_rest_101 : decode cX5_rest 101 = .ok (.astore 6, 2) := by decide +kernel
theorem dX5_rest_103 : decode cX5_rest 103 = .ok (.iconst 0, 1) := by decide +kernel
theorem dX5_rest_104 : decode cX5_rest 104 = .ok (.istore 7, 2) := by decide +kernel
theorem dX5_rest_106 : decode cX5_rest 106 = .ok (.iload 7, 2) := by decide +kernel
theorem dX5_rest_108 : decode cX5_rest 108 = .ok (.aload_n 3, 1) := by decide +kernel
theorem dX5_rest_109 : decode cX5_rest 109 = .ok (.getfield 96, 3) := by decide +kernel
theorem dX5_rest_112 : decode cX5_rest 112 = .ok (.if_icmp .ge 35, 3) := by decide +kernel
theorem dX5_rest_115 : decode cX5_rest 115 = .ok (.iload 7, 2) := by decide +kernel
theorem dX5_rest_117 : decode cX5_rest 117 = .ok (.ifCond .le 11, 3) := by decide +kernel
theorem dX5_rest_120 : decode cX5_rest 120 = .ok (.aload 6, 2) := by decide +kernel
theorem dX5_rest_122 : decode cX5_rest 122 = .ok (.bipush 32, 2) := by decide +kernel
theorem dX5_rest_124 : decode cX5_rest 124 = .ok (.invokevirtual 174, 3) := by decide +kernel
theorem dX5_rest_127 : decode cX5_rest 127 = .ok (.pop, 1) := by decide +kernel
theorem dX5_rest_128 : decode cX5_rest 128 = .ok (.aload 6, 2) := by decide +kernel
theorem dX5_rest_130 : decode cX5_rest 130 = .ok (.aload_n 0, 1) := by decide +kernel
theorem dX5_rest_131 : decode cX5_rest 131 = .ok (.iload 7, 2) := by decide +kernel
theorem dX5_rest_133 : decode cX5_rest 133 = .ok (.invokevirtual 249, 3) := by decide +kernel
theorem dX5_rest_136 : decode cX5_rest 136 = .ok (.l2i, 1) := by decide +kernel
theorem dX5_rest_137 : decode cX5_rest 137 = .ok (.invokevirtual 178, 3) := by decide +kernel
theorem dX5_rest_140 : decode cX5_rest 140 = .ok (.pop, 1) := by decide +kernel
theorem dX5_rest_141 : decode cX5_rest 141 = .ok (.iinc 7 1, 3) := by decide +kernel
theorem dX5_rest_144 : decode cX5_rest 144 = .ok (.goto (-38), 3) := by decide +kernel
theorem dX5_rest_147 : decode cX5_rest 147 = .ok (.aload 6, 2) := by decide +kernel
theorem dX5_rest_149 : decode cX5_rest 149 = .ok (.invokevirtual 181, 3) := by decide +kernel
theorem dX5_rest_152 : decode cX5_rest 152 = .ok (.areturn, 1) := by decide +kernel
theorem dX5_restOf_0 : decode cX5_restOf 0 = .ok (.aload_n 0, 1) := by decide +kernel
theorem dX5_restOf_1 : decode cX5_restOf 1 = .ok (.iload_n 1, 1) := by decide +kernel
theorem dX5_restOf_2 : decode cX5_restOf 2 = .ok (.invokevirtual 48, 3) := by decide +kernel
theorem dX5_restOf_5 : decode cX5_restOf 5 = .ok (.astore 4, 2) := by decide +kernel
theorem dX5_restOf_7 : decode cX5_restOf 7 = .ok (.aload_n 0, 1) := by decide +kernel
theorem dX5_restOf_8 : decode cX5_restOf 8 = .ok (.iload_n 2, 1) := by decide +kernel
theorem dX5_restOf_9 : decode cX5_restOf 9 = .ok (.invokevirtual 48, 3) := by decide +kernel
theorem dX5_restOf_12 : decode cX5_restOf 12 = .ok (.astore 5, 2) := by decide +kernel
theorem dX5_restOf_14 : decode cX5_restOf 14 = .ok (.aload 5, 2) := by decide +kernel
theorem dX5_restOf_16 : decode cX5_restOf 16 = .ok (.iconst 0, 1) := by decide +kernel
theorem dX5_restOf_17 : decode cX5_restOf 17 = .ok (.iload_n 3, 1) := by decide +kernel
theorem dX5_restOf_18 : decode cX5_restOf 18 = .ok (.invokevirtual 76, 3) := by decide +kernel
theorem dX5_restOf_21 : decode cX5_restOf 21 = .ok (.invokestatic 80, 3) := by decide +kernel
theorem dX5_restOf_24 : decode cX5_restOf 24 = .ok (.aload_n 0, 1) := by decide +kernel
theorem dX5_restOf_25 : decode cX5_restOf 25 = .ok (.aload 4, 2) := by decide +kernel
theorem dX5_restOf_27 : decode cX5_restOf 27 = .ok (.invokevirtual 236, 3) := by decide +kernel
theorem dX5_restOf_30 : decode cX5_restOf 30 = .ok (.invokestatic 185, 3) := by decide +kernel
theorem dX5_restOf_33 : decode cX5_restOf 33 = .ok (.aload 4, 2) := by decide +kernel
theorem dX5_restOf_35 : decode cX5_restOf 35 = .ok (.getfield 96, 3) := by decide +kernel
theorem dX5_restOf_38 : decode cX5_restOf 38 = .ok (.aload 5, 2) := by decide +kernel
theorem dX5_restOf_40 : decode cX5_restOf 40 = .ok (.getfield 96, 3) := by decide +kernel
theorem dX5_restOf_43 : decode cX5_restOf 43 = .ok (.if_icmp .ne 7, 3) := by decide +kernel
theorem dX5_restOf_46 : decode cX5_restOf 46 = .ok (.iconst 1, 1) := by decide +kernel
theorem dX5_restOf_47 : decode cX5_restOf 47 = .ok (.goto 4, 3) := by decide +kernel
theorem dX5_restOf_50 : decode cX5_restOf 50 = .ok (.iconst 0, 1) := by decide +kernel
theorem dX5_restOf_51 : decode cX5_restOf 51 = .ok (.invokestatic 56, 3) := by decide +kernel
theorem dX5_restOf_54 : decode cX5_restOf 54 = .ok (.iconst 0, 1) := by decide +kernel
theorem dX5_restOf_55 : decode cX5_restOf 55 = .ok (.istore 6, 2) := by decide +kernel
theorem dX5_restOf_57 : decode cX5_restOf 57 = .ok (.iload 6, 2) := by decide +kernel
theorem dX5_restOf_59 : decode cX5_restOf 59 = .ok (.aload 4, 2) := by decide +kernel
theorem dX5_restOf_61 : decode cX5_restOf 61 = .ok (.getfield 96, 3) := by decide +kernel
theorem dX5_restOf_64 : decode cX5_restOf 64 = .ok (.if_icmp .ge 23, 3) := by decide +kernel
theorem dX5_restOf_67 : decode cX5_restOf 67 = .ok (.aload_n 0, 1) := by decide +kernel
theorem dX5_restOf_68 : decode cX5_restOf 68 = .ok (.iload 6, 2) := by decide +kernel
theorem dX5_restOf_70 : decode cX5_restOf 70 = .ok (.aload 5, 2) := by decide +kernel
theorem dX5_restOf_72 : decode cX5_restOf 72 = .ok (.iload_n 3, 1) := by decide +kernel
theorem dX5_restOf_73 : decode cX5_restOf 73 = .ok (.iload 6, 2) := by decide +kernel
theorem dX5_restOf_75 : decode cX5_restOf 75 = .ok (.invokevirtual 83, 3) := by decide +kernel
theorem dX5_restOf_78 : decode cX5_restOf 78 = .ok (.invokevirtual 242, 3) := by decide +kernel
theorem dX5_restOf_81 : decode cX5_restOf 81 = .ok (.iinc 6 1, 3) := by decide +kernel
theorem dX5_restOf_84 : decode cX5_restOf 84 = .ok (.goto (-27), 3) := by decide +kernel
theorem dX5_restOf_87 : decode cX5_restOf 87 = .ok (.lconst 0, 1) := by decide +kernel
theorem dX5_restOf_88 : decode cX5_restOf 88 = .ok (.lstore 6, 2) := by decide +kernel
theorem dX5_restOf_90 : decode cX5_restOf 90 = .ok (.iconst 0, 1) := by decide +kernel
theorem dX5_restOf_91 : decode cX5_restOf 91 = .ok (.istore 8, 2) := by decide +kernel
theorem dX5_restOf_93 : decode cX5_restOf 93 = .ok (.iload 8, 2) := by decide +kernel
theorem dX5_restOf_95 : decode cX5_restOf 95 = .ok (.aload 4, 2) := by decide +kernel
theorem dX5_restOf_97 : decode cX5_restOf 97 = .ok (.getfield 96, 3) := by decide +kernel
theorem dX5_restOf_100 : decode cX5_restOf 100 = .ok (.if_icmp .ge 102, 3) := by decide +kernel
theorem dX5_restOf_103 : decode cX5_restOf 103 = .ok (.aload_n 0, 1) := by decide +kernel
theorem dX5_restOf_104 : decode cX5_restOf 104 = .ok (.getfield 26, 3) := by decide +kernel
theorem dX5_restOf_107 : decode cX5_restOf 107 = .ok (.getfield 239, 3) := by decide +kernel
theorem dX5_restOf_110 : decode cX5_restOf 110 = .ok (.iload 8, 2) := by decide +kernel
theorem dX5_restOf_112 : decode cX5_restOf 112 = .ok (.iload 8, 2) := by decide +kernel
theorem dX5_restOf_114 : decode cX5_restOf 114 = .ok (.invokevirtual 83, 3) := by decide +kernel
theorem dX5_restOf_117 : decode cX5_restOf 117 = .ok (.lstore 9, 2) := by decide +kernel
theorem dX5_restOf_119 : decode cX5_restOf 119 = .ok (.aload_n 0, 1) := by decide +kernel
theorem dX5_restOf_120 : decode cX5_restOf 120 = .ok (.iload 8, 2) := by decide +kernel
theorem dX5_restOf_122 : decode cX5_restOf 122 = .ok (.invokevirtual 249, 3) := by decide +kernel
theorem dX5_restOf_125 : decode cX5_restOf 125 = .ok (.lload 9, 2) := by decide +kernel
theorem dX5_restOf_127 : decode cX5_restOf 127 = .ok (.invokestatic 246, 3) := by decide +kernel
theorem dX5_restOf_130 : decode cX5_restOf 130 = .ok (.lstore 11, 2) := by decide +kernel
theorem dX5_restOf_132 : decode cX5_restOf 132 = .ok (.iload 8, 2) := by decide +kernel
theorem dX5_restOf_134 : decode cX5_restOf 134 = .ok (.istore 13, 2) := by decide +kernel
theorem dX5_restOf_136 : decode cX5_restOf 136 = .ok (.iload 13, 2) := by decide +kernel
theorem dX5_restOf_138 : decode cX5_restOf 138 = .ok (.aload 4, 2) := by decide +kernel
theorem dX5_restOf_140 : decode cX5_restOf 140 = .ok (.getfield 96, 3) := by decide +kernel
theorem dX5_restOf_143 : decode cX5_restOf 143 = .ok (.if_icmp .ge 39, 3) := by decide +kernel
theorem dX5_restOf_146 : decode cX5_restOf 146 = .ok (.aload_n 0, 1) := by decide +kernel
theorem dX5_restOf_147 : decode cX5_restOf 147 = .ok (.iload 13, 2) := by decide +kernel
theorem dX5_restOf_149 : decode cX5_restOf 149 = .ok (.aload_n 0, 1) := by decide +kernel
theorem dX5_restOf_150 : decode cX5_restOf 150 = .ok (.iload 13, 2) := by decide +kernel
theorem dX5_restOf_152 : decode cX5_restOf 152 = .ok (.invokevirtual 249, 3) := by decide +kernel
theorem dX5_restOf_155 : decode cX5_restOf 155 = .ok (.lload 11, 2) := by decide +kernel
theorem dX5_restOf_157 : decode cX5_restOf 157 = .ok (.aload_n 0, 1) := by decide +kernel
theorem dX5_restOf_158 : decode cX5_restOf 158 = .ok (.getfield 26, 3) := by decide +kernel
theorem dX5_restOf_161 : decode cX5_restOf 161 = .ok (.getfield 239, 3) := by decide +kernel
theorem dX5_restOf_164 : decode cX5_restOf 164 = .ok (.iload 8, 2) := by decide +kernel
theorem dX5_restOf_166 : decode cX5_restOf 166 = .ok (.iload 13, 2) := by decide +kernel
theorem dX5_restOf_168 : decode cX5_restOf 168 = .ok (.invokevirtual 83, 3) := by decide +kernel
theorem dX5_restOf_171 : decode cX5_restOf 171 = .ok (.lmul, 1) := by decide +kernel
theorem dX5_restOf_172 : decode cX5_restOf 172 = .ok (.lsub, 1) := by decide +kernel
theorem dX5_restOf_173 : decode cX5_restOf 173 = .ok (.invokevirtual 242, 3) := by decide +kernel
theorem dX5_restOf_176 : decode cX5_restOf 176 = .ok (.iinc 13 1, 3) := by decide +kernel
theorem dX5_restOf_179 : decode cX5_restOf 179 = .ok (.goto (-43), 3) := by decide +kernel
theorem dX5_restOf_182 : decode cX5_restOf 182 = .ok (.lload 6, 2) := by decide +kernel
theorem dX5_restOf_184 : decode cX5_restOf 184 = .ok (.lload 9, 2) := by decide +kernel
theorem dX5_restOf_186 : decode cX5_restOf 186 = .ok (.lmul, 1) := by decide +kernel
theorem dX5_restOf_187 : decode cX5_restOf 187 = .ok (.aload_n 0, 1) := by decide +kernel
theorem dX5_restOf_188 : decode cX5_restOf 188 = .ok (.iload 8, 2) := by decide +kernel
theorem dX5_restOf_190 : decode cX5_restOf 190 = .ok (.invokevirtual 249, 3) := by decide +kernel
theorem dX5_restOf_193 : decode cX5_restOf 193 = .ok (.ladd, 1) := by decide +kernel
theorem dX5_restOf_194 : decode cX5_restOf 194 = .ok (.lstore 6, 2) := by decide +kernel
theorem dX5_restOf_196 : decode cX5_restOf 196 = .ok (.iinc 8 1, 3) := by decide +kernel
theorem dX5_restOf_199 : decode cX5_restOf 199 = .ok (.goto (-106), 3) := by decide +kernel
theorem dX5_restOf_202 : decode cX5_restOf 202 = .ok (.lload 6, 2) := by decide +kernel
theorem dX5_restOf_204 : decode cX5_restOf 204 = .ok (.l2i, 1) := by decide +kernel
theorem dX5_restOf_205 : decode cX5_restOf 205 = .ok (.ireturn, 1) := by decide +kernel
theorem dX5_house_0 : decode cX5_house 0 = .ok (.iload_n 1, 1) := by decide +kernel
theorem dX5_house_1 : decode cX5_house 1 = .ok (.ifCond .lt 12, 3) := by decide +kernel
theorem dX5_house_4 : decode cX5_house 4 = .ok (.iload_n 1, 1) := by decide +kernel
theorem dX5_house_5 : decode cX5_house 5 = .ok (.iconst 3, 1) := by decide +kernel
theorem dX5_house_6 : decode cX5_house 6 = .ok (.if_icmp .gt 7, 3) := by decide +kernel
theorem dX5_house_9 : decode cX5_house 9 = .ok (.iconst 1, 1) := by decide +kernel
theorem dX5_house_10 : decode cX5_house 10 = .ok (.goto 4, 3) := by decide +kernel
theorem dX5_house_13 : decode cX5_house 13 = .ok (.iconst 0, 1) := by decide +kernel
theorem dX5_house_14 : decode cX5_house 14 = .ok (.invokestatic 56, 3) := by decide +kernel
theorem dX5_house_17 : decode cX5_house 17 = .ok (.aload_n 0, 1) := by decide +kernel
theorem dX5_house_18 : decode cX5_house 18 = .ok (.iload_n 1, 1) := by decide +kernel
theorem dX5_house_19 : decode cX5_house 19 = .ok (.invokevirtual 253, 3) := by decide +kernel
theorem dX5_house_22 : decode cX5_house 22 = .ok (.ireturn, 1) := by decide +kernel
theorem dX5_knock_0 : decode cX5_knock 0 = .ok (.aload_n 0, 1) := by decide +kernel
theorem dX5_knock_1 : decode cX5_knock 1 = .ok (.dup, 1) := by decide +kernel
theorem dX5_knock_2 : decode cX5_knock 2 = .ok (.getfield 256, 3) := by decide +kernel
theorem dX5_knock_5 : decode cX5_knock 5 = .ok (.iconst 1, 1) := by decide +kernel
theorem dX5_knock_6 : decode cX5_knock 6 = .ok (.iadd, 1) := by decide +kernel
theorem dX5_knock_7 : decode cX5_knock 7 = .ok (.putfield 256, 3) := by decide +kernel
theorem dX5_knock_10 : decode cX5_knock 10 = .ok (.aload_n 0, 1) := by decide +kernel
theorem dX5_knock_11 : decode cX5_knock 11 = .ok (.getfield 256, 3) := by decide +kernel
theorem dX5_knock_14 : decode cX5_knock 14 = .ok (.ireturn, 1) := by decide +kernel
theorem dX5_isSound_0 : decode cX5_isSound 0 = .ok (.aload_n 0, 1) := by decide +kernel
theorem dX5_isSound_1 : decode cX5_isSound 1 = .ok (.invokevirtual 259, 3) := by decide +kernel
theorem dX5_isSound_4 : decode cX5_isSound 4 = .ok (.ireturn, 1) := by decide +kernel
theorem dX5_digest_0 : decode cX5_digest 0 = .ok (.ldc2_w 263, 3) := by decide +kernel
theorem dX5_digest_3 : decode cX5_digest 3 = .ok (.lstore_n 1, 1) := by decide +kernel
theorem dX5_digest_4 : decode cX5_digest 4 = .ok (.iconst 0, 1) := by decide +kernel
theorem dX5_digest_5 : decode cX5_digest 5 = .ok (.istore_n 3, 1) := by decide +kernel
theorem dX5_digest_6 : decode cX5_digest 6 = .ok (.iload_n 3, 1) := by decide +kernel
theorem dX5_digest_7 : decode cX5_digest 7 = .ok (.iconst 4, 1) := by decide +kernel
theorem dX5_digest_8 : decode cX5_digest 8 = .ok (.if_icmp .ge 20, 3) := by decide +kernel
theorem dX5_digest_11 : decode cX5_digest 11 = .ok (.aload_n 0, 1) := by decide +kernel
theorem dX5_digest_12 : decode cX5_digest 12 = .ok (.getfield 11, 3) := by decide +kernel
theorem dX5_digest_15 : decode cX5_digest 15 = .ok (.iload_n 3, 1) := by decide +kernel
theorem dX5_digest_16 : decode cX5_digest 16 = .ok (.aaload, 1) := by decide +kernel
theorem dX5_digest_17 : decode cX5_digest 17 = .ok (.lload_n 1, 1) := by decide +kernel
theorem dX5_digest_18 : decode cX5_digest 18 = .ok (.invokevirtual 265, 3) := by decide +kernel
theorem dX5_digest_21 : decode cX5_digest 21 = .ok (.lstore_n 1, 1) := by decide +kernel
theorem dX5_digest_22 : decode cX5_digest 22 = .ok (.iinc 3 1, 3) := by decide +kernel
theorem dX5_digest_25 : decode cX5_digest 25 = .ok (.goto (-19), 3) := by decide +kernel
theorem dX5_digest_28 : decode cX5_digest 28 = .ok (.iconst 0, 1) := by decide +kernel
theorem dX5_digest_29 : decode cX5_digest 29 = .ok (.istore_n 3, 1) := by decide +kernel
theorem dX5_digest_30 : decode cX5_digest 30 = .ok (.iload_n 3, 1) := by decide +kernel
theorem dX5_digest_31 : decode cX5_digest 31 = .ok (.iconst 3, 1) := by decide +kernel
theorem dX5_digest_32 : decode cX5_digest 32 = .ok (.if_icmp .gt 22, 3) := by decide +kernel
theorem dX5_digest_35 : decode cX5_digest 35 = .ok (.lload_n 1, 1) := by decide +kernel
theorem dX5_digest_36 : decode cX5_digest 36 = .ok (.ldc2_w 269, 3) := by decide +kernel
theorem dX5_digest_39 : decode cX5_digest 39 = .ok (.lmul, 1) := by decide +kernel
theorem dX5_digest_40 : decode cX5_digest 40 = .ok (.aload_n 0, 1) := by decide +kernel
theorem dX5_digest_41 : decode cX5_digest 41 = .ok (.iload_n 3, 1) := by decide +kernel
theorem dX5_digest_42 : decode cX5_digest 42 = .ok (.invokevirtual 253, 3) := by decide +kernel
theorem dX5_digest_45 : decode cX5_digest 45 = .ok (.i2l, 1) := by decide +kernel
theorem dX5_digest_46 : decode cX5_digest 46 = .ok (.ladd, 1) := by decide +kernel
theorem dX5_digest_47 : decode cX5_digest 47 = .ok (.lstore_n 1, 1) := by decide +kernel
theorem dX5_digest_48 : decode cX5_digest 48 = .ok (.iinc 3 1, 3) := by decide +kernel
theorem dX5_digest_51 : decode cX5_digest 51 = .ok (.goto (-21), 3) := by decide +kernel
theorem dX5_digest_54 : decode cX5_digest 54 = .ok (.lload_n 1, 1) := by decide +kernel
theorem dX5_digest_55 : decode cX5_digest 55 = .ok (.ldc2_w 269, 3) := by decide +kernel
theorem dX5_digest_58 : decode cX5_digest 58 = .ok (.lmul, 1) := by decide +kernel
theorem dX5_digest_59 : decode cX5_digest 59 = .ok (.aload_n 0, 1) := by decide +kernel
theorem dX5_digest_60 : decode cX5_digest 60 = .ok (.invokevirtual 259, 3) := by decide +kernel
theorem dX5_digest_63 : decode cX5_digest 63 = .ok (.ifCond .eq 7, 3) := by decide +kernel
theorem dX5_digest_66 : decode cX5_digest 66 = .ok (.iconst 1, 1) := by decide +kernel
theorem dX5_digest_67 : decode cX5_digest 67 = .ok (.goto 4, 3) := by decide +kernel
theorem dX5_digest_70 : decode cX5_digest 70 = .ok (.iconst 0, 1) := by decide +kernel
theorem dX5_digest_71 : decode cX5_digest 71 = .ok (.i2l, 1) := by decide +kernel
theorem dX5_digest_72 : decode cX5_digest 72 = .ok (.ladd, 1) := by decide +kernel
theorem dX5_digest_73 : decode cX5_digest 73 = .ok (.lreturn, 1) := by decide +kernel
theorem dX5_needTable_0 : decode cX5_needTable 0 = .ok (.iload_n 1, 1) := by decide +kernel
theorem dX5_needTable_1 : decode cX5_needTable 1 = .ok (.ifCond .lt 8, 3) := by decide +kernel
theorem dX5_needTable_4 : decode cX5_needTable 4 = .ok (.iload_n 1, 1) := by decide +kernel
theorem dX5_needTable_5 : decode cX5_needTable 5 = .ok (.iconst 4, 1) := by decide +kernel
theorem dX5_needTable_6 : decode cX5_needTable 6 = .ok (.if_icmp .lt 14, 3) := by decide +kernel
theorem dX5_needTable_9 : decode cX5_needTable 9 = .ok (.new 271, 3) := by decide +kernel
theorem dX5_needTable_12 : decode cX5_needTable 12 = .ok (.dup, 1) := by decide +kernel
theorem dX5_needTable_13 : decode cX5_needTable 13 = .ok (.ldc_w 273, 3) := by decide +kernel
theorem dX5_needTable_16 : decode cX5_needTable 16 = .ok (.invokespecial 275, 3) := by decide +kernel
theorem dX5_needTable_19 : decode cX5_needTable 19 = .ok (.athrow, 1) := by decide +kernel
theorem dX5_needTable_20 : decode cX5_needTable 20 = .ok (.aload_n 0, 1) := by decide +kernel
theorem dX5_needTable_21 : decode cX5_needTable 21 = .ok (.getfield 11, 3) := by decide +kernel
theorem dX5_needTable_24 : decode cX5_needTable 24 = .ok (.iload_n 1, 1) := by decide +kernel
theorem dX5_needTable_25 : decode cX5_needTable 25 = .ok (.aaload, 1) := by decide +kernel
theorem dX5_needTable_26 : decode cX5_needTable 26 = .ok (.areturn, 1) := by decide +kernel
theorem dX5_needIndex_0 : decode cX5_needIndex 0 = .ok (.iload_n 0, 1) := by decide +kernel
theorem dX5_needIndex_1 : decode cX5_needIndex 1 = .ok (.ifCond .ne 14, 3) := by decide +kernel
theorem dX5_needIndex_4 : decode cX5_needIndex 4 = .ok (.new 271, 3) := by decide +kernel
theorem dX5_needIndex_7 : decode cX5_needIndex 7 = .ok (.dup, 1) := by decide +kernel
theorem dX5_needIndex_8 : decode cX5_needIndex 8 = .ok (.ldc_w 276, 3) := by decide +kernel
theorem dX5_needIndex_11 : decode cX5_needIndex 11 = .ok (.invokespecial 275, 3) := by decide +kernel
theorem dX5_needIndex_14 : decode cX5_needIndex 14 = .ok (.athrow, 1) := by decide +kernel
theorem dX5_needIndex_15 : decode cX5_needIndex 15 = .ok (.return_, 1) := by decide +kernel
theorem dX5_needArgument_0 : decode cX5_needArgument 0 = .ok (.iload_n 0, 1) := by decide +kernel
theorem dX5_needArgument_1 : decode cX5_needArgument 1 = .ok (.ifCond .ne 14, 3) := by decide +kernel
theorem dX5_needArgument_4 : decode cX5_needArgument 4 = .ok (.new 278, 3) := by decide +kernel
theorem dX5_needArgument_7 : decode cX5_needArgument 7 = .ok (.dup, 1) := by decide +kernel
theorem dX5_needArgument_8 : decode cX5_needArgument 8 = .ok (.ldc_w 280, 3) := by decide +kernel
theorem dX5_needArgument_11 : decode cX5_needArgument 11 = .ok (.invokespecial 282, 3) := by decide +kernel
theorem dX5_needArgument_14 : decode cX5_needArgument 14 = .ok (.athrow, 1) := by decide +kernel
theorem dX5_needArgument_15 : decode cX5_needArgument 15 = .ok (.return_, 1) := by decide +kernel
theorem dX5_needState_0 : decode cX5_needState 0 = .ok (.iload_n 0, 1) := by decide +kernel
theorem dX5_needState_1 : decode cX5_needState 1 = .ok (.ifCond .ne 14, 3) := by decide +kernel
theorem dX5_needState_4 : decode cX5_needState 4 = .ok (.new 223, 3) := by decide +kernel
theorem dX5_needState_7 : decode cX5_needState 7 = .ok (.dup, 1) := by decide +kernel
theorem dX5_needState_8 : decode cX5_needState 8 = .ok (.ldc_w 283, 3) := by decide +kernel
theorem dX5_needState_11 : decode cX5_needState 11 = .ok (.invokespecial 227, 3) := by decide +kernel
theorem dX5_needState_14 : decode cX5_needState 14 = .ok (.athrow, 1) := by decide +kernel
theorem dX5_needState_15 : decode cX5_needState 15 = .ok (.return_, 1) := by decide +kernel
theorem dX5_isCount_0 : decode cX5_isCount 0 = .ok (.iload_n 0, 1) := by decide +kernel
theorem dX5_isCount_1 : decode cX5_isCount 1 = .ok (.iconst 1, 1) := by decide +kernel
theorem dX5_isCount_2 : decode cX5_isCount 2 = .ok (.if_icmp .lt 12, 3) := by decide +kernel
theorem dX5_isCount_5 : decode cX5_isCount 5 = .ok (.iload_n 0, 1) := by decide +kernel
theorem dX5_isCount_6 : decode cX5_isCount 6 = .ok (.iconst 4, 1) := by decide +kernel
theorem dX5_isCount_7 : decode cX5_isCount 7 = .ok (.if_icmp .gt 7, 3) := by decide +kernel
theorem dX5_isCount_10 : decode cX5_isCount 10 = .ok (.iconst 1, 1) := by decide +kernel
theorem dX5_isCount_11 : decode cX5_isCount 11 = .ok (.goto 4, 3) := by decide +kernel
theorem dX5_isCount_14 : decode cX5_isCount 14 = .ok (.iconst 0, 1) := by decide +kernel
theorem dX5_isCount_15 : decode cX5_isCount 15 = .ok (.ireturn, 1) := by decide +kernel
theorem dX5_isForm_0 : decode cX5_isForm 0 = .ok (.iload_n 0, 1) := by decide +kernel
theorem dX5_isForm_1 : decode cX5_isForm 1 = .ok (.ifCond .lt 12, 3) := by decide +kernel
theorem dX5_isForm_4 : decode cX5_isForm 4 = .ok (.iload_n 0, 1) := by decide +kernel
theorem dX5_isForm_5 : decode cX5_isForm 5 = .ok (.iconst 4, 1) := by decide +kernel
theorem dX5_isForm_6 : decode cX5_isForm 6 = .ok (.if_icmp .gt 7, 3) := by decide +kernel
theorem dX5_isForm_9 : decode cX5_isForm 9 = .ok (.iconst 1, 1) := by decide +kernel
theorem dX5_isForm_10 : decode cX5_isForm 10 = .ok (.goto 4, 3) := by decide +kernel
theorem dX5_isForm_13 : decode cX5_isForm 13 = .ok (.iconst 0, 1) := by decide +kernel
theorem dX5_isForm_14 : decode cX5_isForm 14 = .ok (.ireturn, 1) := by decide +kernel
theorem dX5_tellDone_0 : decode cX5_tellDone 0 = .ok (.aload_n 0, 1) := by decide +kernel
theorem dX5_tellDone_1 : decode cX5_tellDone 1 = .ok (.dup, 1) := by decide +kernel
theorem dX5_tellDone_2 : decode cX5_tellDone 2 = .ok (.getfield 285, 3) := by decide +kernel
theorem dX5_tellDone_5 : decode cX5_tellDone 5 = .ok (.iconst 1, 1) := by decide +kernel
theorem dX5_tellDone_6 : decode cX5_tellDone 6 = .ok (.iadd, 1) := by decide +kernel
theorem dX5_tellDone_7 : decode cX5_tellDone 7 = .ok (.putfield 285, 3) := by decide +kernel
theorem dX5_tellDone_10 : decode cX5_tellDone 10 = .ok (.iload_n 1, 1) := by decide +kernel
theorem dX5_tellDone_11 : decode cX5_tellDone 11 = .ok (.ireturn, 1) := by decide +kernel
theorem dX5_tellRefused_0 : decode cX5_tellRefused 0 = .ok (.aload_n 0, 1) := by decide +kernel
theorem dX5_tellRefused_1 : decode cX5_tellRefused 1 = .ok (.dup, 1) := by decide +kernel
theorem dX5_tellRefused_2 : decode cX5_tellRefused 2 = .ok (.getfield 288, 3) := by decide +kernel
theorem dX5_tellRefused_5 : decode cX5_tellRefused 5 = .ok (.iconst 1, 1) := by decide +kernel
theorem dX5_tellRefused_6 : decode cX5_tellRefused 6 = .ok (.iadd, 1) := by decide +kernel
theorem dX5_tellRefused_7 : decode cX5_tellRefused 7 = .ok (.putfield 288, 3) := by decide +kernel
theorem dX5_tellRefused_10 : decode cX5_tellRefused 10 = .ok (.bipush (-9), 2) := by decide +kernel
theorem dX5_tellRefused_12 : decode cX5_tellRefused 12 = .ok (.ireturn, 1) := by decide +kernel
theorem dX5_settleChange_0 : decode cX5_settleChange 0 = .ok (.aload_n 0, 1) := by decide +kernel
theorem dX5_settleChange_1 : decode cX5_settleChange 1 = .ok (.getfield 16, 3) := by decide +kernel
theorem dX5_settleChange_4 : decode cX5_settleChange 4 = .ok (.ldc2_w 291, 3) := by decide +kernel
theorem dX5_settleChange_7 : decode cX5_settleChange 7 = .ok (.invokevirtual 293, 3) := by decide +kernel
theorem dX5_settleChange_10 : decode cX5_settleChange 10 = .ok (.ifCond .ne 8, 3) := by decide +kernel
theorem dX5_settleChange_13 : decode cX5_settleChange 13 = .ok (.aload_n 0, 1) := by decide +kernel
theorem dX5_settleChange_14 : decode cX5_settleChange 14 = .ok (.invokevirtual 132, 3) := by decide +kernel
theorem dX5_settleChange_17 : decode cX5_settleChange 17 = .ok (.ireturn, 1) := by decide +kernel
theorem dX5_settleChange_18 : decode cX5_settleChange 18 = .ok (.aload_n 1, 1) := by decide +kernel
theorem dX5_settleChange_19 : decode cX5_settleChange 19 = .ok (.aload_n 0, 1) := by decide +kernel
theorem dX5_settleChange_20 : decode cX5_settleChange 20 = .ok (.getfield 16, 3) := by decide +kernel
theorem dX5_settleChange_23 : decode cX5_settleChange 23 = .ok (.invokevirtual 297, 3) := by decide +kernel
theorem dX5_settleChange_26 : decode cX5_settleChange 26 = .ok (.istore_n 2, 1) := by decide +kernel
theorem dX5_settleChange_27 : decode cX5_settleChange 27 = .ok (.aload_n 1, 1) := by decide +kernel
theorem dX5_settleChange_28 : decode cX5_settleChange 28 = .ok (.aload_n 0, 1) := by decide +kernel
theorem dX5_settleChange_29 : decode cX5_settleChange 29 = .ok (.getfield 16, 3) := by decide +kernel
theorem dX5_settleChange_32 : decode cX5_settleChange 32 = .ok (.invokevirtual 108, 3) := by decide +kernel
theorem dX5_settleChange_35 : decode cX5_settleChange 35 = .ok (.aload_n 0, 1) := by decide +kernel
theorem dX5_settleChange_36 : decode cX5_settleChange 36 = .ok (.iload_n 2, 1) := by decide +kernel
theorem dX5_settleChange_37 : decode cX5_settleChange 37 = .ok (.invokevirtual 68, 3) := by decide +kernel
theorem dX5_settleChange_40 : decode cX5_settleChange 40 = .ok (.ireturn, 1) := by decide +kernel
theorem dX5_settleForm_0 : decode cX5_settleForm 0 = .ok (.aload_n 1, 1) := by decide +kernel
theorem dX5_settleForm_1 : decode cX5_settleForm 1 = .ok (.ldc2_w 291, 3) := by decide +kernel
theorem dX5_settleForm_4 : decode cX5_settleForm 4 = .ok (.invokevirtual 293, 3) := by decide +kernel
theorem dX5_settleForm_7 : decode cX5_settleForm 7 = .ok (.ifCond .ne 8, 3) := by decide +kernel
theorem dX5_settleForm_10 : decode cX5_settleForm 10 = .ok (.aload_n 0, 1) := by decide +kernel
theorem dX5_settleForm_11 : decode cX5_settleForm 11 = .ok (.invokevirtual 132, 3) := by decide +kernel
theorem dX5_settleForm_14 : decode cX5_settleForm 14 = .ok (.ireturn, 1) := by decide +kernel
theorem dX5_settleForm_15 : decode cX5_settleForm 15 = .ok (.aload_n 2, 1) := by decide +kernel
theorem dX5_settleForm_16 : decode cX5_settleForm 16 = .ok (.aload_n 1, 1) := by decide +kernel
theorem dX5_settleForm_17 : decode cX5_settleForm 17 = .ok (.invokevirtual 108, 3) := by decide +kernel
theorem dX5_settleForm_20 : decode cX5_settleForm 20 = .ok (.aload_n 0, 1) := by decide +kernel
theorem dX5_settleForm_21 : decode cX5_settleForm 21 = .ok (.aload_n 2, 1) := by decide +kernel
theorem dX5_settleForm_22 : decode cX5_settleForm 22 = .ok (.invokevirtual 60, 3) := by decide +kernel
theorem dX5_settleForm_25 : decode cX5_settleForm 25 = .ok (.invokevirtual 68, 3) := by decide +kernel
theorem dX5_settleForm_28 : decode cX5_settleForm 28 = .ok (.ireturn, 1) := by decide +kernel
theorem dX5_findForm_0 : decode cX5_findForm 0 = .ok (.iload_n 2, 1) := by decide +kernel
theorem dX5_findForm_1 : decode cX5_findForm 1 = .ok (.ifCond .eq 8, 3) := by decide +kernel
theorem dX5_findForm_4 : decode cX5_findForm 4 = .ok (.iload_n 2, 1) := by decide +kernel
theorem dX5_findForm_5 : decode cX5_findForm 5 = .ok (.iconst 1, 1) := by decide +kernel
theorem dX5_findForm_6 : decode cX5_findForm 6 = .ok (.if_icmp .ne 45, 3) := by decide +kernel
theorem dX5_findForm_9 : decode cX5_findForm 9 = .ok (.aload_n 0, 1) := by decide +kernel
theorem dX5_findForm_10 : decode cX5_findForm 10 = .ok (.getfield 26, 3) := by decide +kernel
theorem dX5_findForm_13 : decode cX5_findForm 13 = .ok (.aload_n 1, 1) := by decide +kernel
theorem dX5_findForm_14 : decode cX5_findForm 14 = .ok (.invokevirtual 198, 3) := by decide +kernel
theorem dX5_findForm_17 : decode cX5_findForm 17 = .ok (.aload_n 0, 1) := by decide +kernel
theorem dX5_findForm_18 : decode cX5_findForm 18 = .ok (.getfield 26, 3) := by decide +kernel
theorem dX5_findForm_21 : decode cX5_findForm 21 = .ok (.getfield 199, 3) := by decide +kernel
theorem dX5_findForm_24 : decode cX5_findForm 24 = .ok (.ifCond .eq 5, 3) := by decide +kernel
theorem dX5_findForm_27 : decode cX5_findForm 27 = .ok (.aconst_null, 1) := by decide +kernel
theorem dX5_findForm_28 : decode cX5_findForm 28 = .ok (.areturn, 1) := by decide +kernel
theorem dX5_findForm_29 : decode cX5_findForm 29 = .ok (.iload_n 2, 1) := by decide +kernel
theorem dX5_findForm_30 : decode cX5_findForm 30 = .ok (.ifCond .ne 13, 3) := by decide +kernel
theorem dX5_findForm_33 : decode cX5_findForm 33 = .ok (.aload_n 0, 1) := by decide +kernel
theorem dX5_findForm_34 : decode cX5_findForm 34 = .ok (.getfield 26, 3) := by decide +kernel
theorem dX5_findForm_37 : decode cX5_findForm 37 = .ok (.getfield 239, 3) := by decide +kernel
theorem dX5_findForm_40 : decode cX5_findForm 40 = .ok (.goto 10, 3) := by decide +kernel
theorem dX5_findForm_43 : decode cX5_findForm 43 = .ok (.aload_n 0, 1) := by decide +kernel
theorem dX5_findForm_44 : decode cX5_findForm 44 = .ok (.getfield 26, 3) := by decide +kernel
theorem dX5_findForm_47 : decode cX5_findForm 47 = .ok (.getfield 300, 3) := by decide +kernel
theorem dX5_findForm_50 : decode cX5_findForm 50 = .ok (.areturn, 1) := by decide +kernel
theorem dX5_findForm_51 : decode cX5_findForm 51 = .ok (.aload_n 0, 1) := by decide +kernel
theorem dX5_findForm_52 : decode cX5_findForm 52 = .ok (.getfield 33, 3) := by decide +kernel
theorem dX5_findForm_55 : decode cX5_findForm 55 = .ok (.aload_n 1, 1) := by decide +kernel
theorem dX5_findForm_56 : decode cX5_findForm 56 = .ok (.invokevirtual 153, 3) := by decide +kernel
theorem dX5_findForm_59 : decode cX5_findForm 59 = .ok (.aload_n 0, 1) := by decide +kernel
theorem dX5_findForm_60 : decode cX5_findForm 60 = .ok (.getfield 33, 3) := by decide +kernel
theorem dX5_findForm_63 : decode cX5_findForm 63 = .ok (.getfield 156, 3) := by decide +kernel
theorem dX5_findForm_66 : decode cX5_findForm 66 = .ok (.ifCond .eq 5, 3) := by decide +kernel
theorem dX5_findForm_69 : decode cX5_findForm 69 = .ok (.aconst_null, 1) := by decide +kernel
theorem dX5_findForm_70 : decode cX5_findForm 70 = .ok (.areturn, 1) := by decide +kernel
theorem dX5_findForm_71 : decode cX5_findForm 71 = .ok (.iload_n 2, 1) := by decide +kernel
theorem dX5_findForm_72 : decode cX5_findForm 72 = .ok (.iconst 2, 1) := by decide +kernel
theorem dX5_findForm_73 : decode cX5_findForm 73 = .ok (.if_icmp .ne 11, 3) := by decide +kernel
theorem dX5_findForm_76 : decode cX5_findForm 76 = .ok (.aload_n 0, 1) := by decide +kernel
theorem dX5_findForm_77 : decode cX5_findForm 77 = .ok (.getfield 33, 3) := by decide +kernel
theorem dX5_findForm_80 : decode cX5_findForm 80 = .ok (.getfield 303, 3) := by decide +kernel
theorem dX5_findForm_83 : decode cX5_findForm 83 = .ok (.areturn, 1) := by decide +kernel
theorem dX5_findForm_84 : decode cX5_findForm 84 = .ok (.iload_n 2, 1) := by decide +kernel
theorem dX5_findForm_85 : decode cX5_findForm 85 = .ok (.iconst 3, 1) := by decide +kernel
theorem dX5_findForm_86 : decode cX5_findForm 86 = .ok (.if_icmp .ne 13, 3) := by decide +kernel
theorem dX5_findForm_89 : decode cX5_findForm 89 = .ok (.aload_n 0, 1) := by decide +kernel
theorem dX5_findForm_90 : decode cX5_findForm 90 = .ok (.getfield 33, 3) := by decide +kernel
theorem dX5_findForm_93 : decode cX5_findForm 93 = .ok (.getfield 304, 3) := by decide +kernel
theorem dX5_findForm_96 : decode cX5_findForm 96 = .ok (.goto 10, 3) := by decide +kernel
theorem dX5_findForm_99 : decode cX5_findForm 99 = .ok (.aload_n 0, 1) := by decide +kernel
theorem dX5_findForm_100 : decode cX5_findForm 100 = .ok (.getfield 33, 3) := by decide +kernel
theorem dX5_findForm_103 : decode cX5_findForm 103 = .ok (.getfield 233, 3) := by decide +kernel
theorem dX5_findForm_106 : decode cX5_findForm 106 = .ok (.areturn, 1) := by decide +kernel
theorem dX5_leavesRests_0 : decode cX5_leavesRests 0 = .ok (.aload_n 1, 1) := by decide +kernel
theorem dX5_leavesRests_1 : decode cX5_leavesRests 1 = .ok (.getfield 92, 3) := by decide +kernel
theorem dX5_leavesRests_4 : decode cX5_leavesRests 4 = .ok (.aload_n 1, 1) := by decide +kernel
theorem dX5_leavesRests_5 : decode cX5_leavesRests 5 = .ok (.getfield 96, 3) := by decide +kernel
theorem dX5_leavesRests_8 : decode cX5_leavesRests 8 = .ok (.if_icmp .ne 12, 3) := by decide +kernel
theorem dX5_leavesRests_11 : decode cX5_leavesRests 11 = .ok (.aload_n 1, 1) := by decide +kernel
theorem dX5_leavesRests_12 : decode cX5_leavesRests 12 = .ok (.invokestatic 188, 3) := by decide +kernel
theorem dX5_leavesRests_15 : decode cX5_leavesRests 15 = .ok (.lconst 0, 1) := by decide +kernel
theorem dX5_leavesRests_16 : decode cX5_leavesRests 16 = .ok (.lcmp, 1) := by decide +kernel
theorem dX5_leavesRests_17 : decode cX5_leavesRests 17 = .ok (.ifCond .ne 5, 3) := by decide +kernel
theorem dX5_leavesRests_20 : decode cX5_leavesRests 20 = .ok (.iconst 0, 1) := by decide +kernel
theorem dX5_leavesRests_21 : decode cX5_leavesRests 21 = .ok (.ireturn, 1) := by decide +kernel
theorem dX5_leavesRests_22 : decode cX5_leavesRests 22 = .ok (.aload_n 0, 1) := by decide +kernel
theorem dX5_leavesRests_23 : decode cX5_leavesRests 23 = .ok (.getfield 26, 3) := by decide +kernel
theorem dX5_leavesRests_26 : decode cX5_leavesRests 26 = .ok (.aload_n 1, 1) := by decide +kernel
theorem dX5_leavesRests_27 : decode cX5_leavesRests 27 = .ok (.invokevirtual 198, 3) := by decide +kernel
theorem dX5_leavesRests_30 : decode cX5_leavesRests 30 = .ok (.aload_n 0, 1) := by decide +kernel
theorem dX5_leavesRests_31 : decode cX5_leavesRests 31 = .ok (.getfield 26, 3) := by decide +kernel
theorem dX5_leavesRests_34 : decode cX5_leavesRests 34 = .ok (.getfield 199, 3) := by decide +kernel
theorem dX5_leavesRests_37 : decode cX5_leavesRests 37 = .ok (.ifCond .ne 7, 3) := by decide +kernel
theorem dX5_leavesRests_40 : decode cX5_leavesRests 40 = .ok (.iconst 1, 1) := by decide +kernel
theorem dX5_leavesRests_41 : decode cX5_leavesRests 41 = .ok (.goto 4, 3) := by decide +kernel
theorem dX5_leavesRests_44 : decode cX5_leavesRests 44 = .ok (.iconst 0, 1) := by decide +kernel
theorem dX5_leavesRests_45 : decode cX5_leavesRests 45 = .ok (.ireturn, 1) := by decide +kernel
theorem dX5_rowNumber_0 : decode cX5_rowNumber 0 = .ok (.iload_n 1, 1) := by decide +kernel
theorem dX5_rowNumber_1 : decode cX5_rowNumber 1 = .ok (.ifCond .lt 21, 3) := by decide +kernel
theorem dX5_rowNumber_4 : decode cX5_rowNumber 4 = .ok (.iload_n 1, 1) := by decide +kernel
theorem dX5_rowNumber_5 : decode cX5_rowNumber 5 = .ok (.aload_n 0, 1) := by decide +kernel
theorem dX5_rowNumber_6 : decode cX5_rowNumber 6 = .ok (.getfield 44, 3) := by decide +kernel
theorem dX5_rowNumber_9 : decode cX5_rowNumber 9 = .ok (.arraylength, 1) := by decide +kernel
theorem dX5_rowNumber_10 : decode cX5_rowNumber 10 = .ok (.if_icmp .ge 12, 3) := by decide +kernel
theorem dX5_rowNumber_13 : decode cX5_rowNumber 13 = .ok (.aload_n 0, 1) := by decide +kernel
theorem dX5_rowNumber_14 : decode cX5_rowNumber 14 = .ok (.getfield 44, 3) := by decide +kernel
theorem dX5_rowNumber_17 : decode cX5_rowNumber 17 = .ok (.iload_n 1, 1) := by decide +kernel
theorem dX5_rowNumber_18 : decode cX5_rowNumber 18 = .ok (.laload, 1) := by decide +kernel
theorem dX5_rowNumber_19 : decode cX5_rowNumber 19 = .ok (.goto 4, 3) := by decide +kernel
theorem dX5_rowNumber_22 : decode cX5_rowNumber 22 = .ok (.lconst 0, 1) := by decide +kernel
theorem dX5_rowNumber_23 : decode cX5_rowNumber 23 = .ok (.lreturn, 1) := by decide +kernel
theorem dX5_setRowNumber_0 : decode cX5_setRowNumber 0 = .ok (.iload_n 1, 1) := by decide +kernel
theorem dX5_setRowNumber_1 : decode cX5_setRowNumber 1 = .ok (.ifCond .lt 19, 3) := by decide +kernel
theorem dX5_setRowNumber_4 : decode cX5_setRowNumber 4 = .ok (.iload_n 1, 1) := by decide +kernel
theorem dX5_setRowNumber_5 : decode cX5_setRowNumber 5 = .ok (.aload_n 0, 1) := by decide +kernel
theorem dX5_setRowNumber_6 : decode cX5_setRowNumber 6 = .ok (.getfield 44, 3) := by decide +kernel
theorem dX5_setRowNumber_9 : decode cX5_setRowNumber 9 = .ok (.arraylength, 1) := by decide +kernel
theorem dX5_setRowNumber_10 : decode cX5_setRowNumber 10 = .ok (.if_icmp .ge 10, 3) := by decide +kernel
theorem dX5_setRowNumber_13 : decode cX5_setRowNumber 13 = .ok (.aload_n 0, 1) := by decide +kernel
theorem dX5_setRowNumber_14 : decode cX5_setRowNumber 14 = .ok (.getfield 44, 3) := by decide +kernel
theorem dX5_setRowNumber_17 : decode cX5_setRowNumber 17 = .ok (.iload_n 1, 1) := by decide +kernel
theorem dX5_setRowNumber_18 : decode cX5_setRowNumber 18 = .ok (.lload_n 2, 1) := by decide +kernel
theorem dX5_setRowNumber_19 : decode cX5_setRowNumber 19 = .ok (.lastore, 1) := by decide +kernel
theorem dX5_setRowNumber_20 : decode cX5_setRowNumber 20 = .ok (.return_, 1) := by decide +kernel
theorem dX5_countHouse_0 : decode cX5_countHouse 0 = .ok (.iload_n 1, 1) := by decide +kernel
theorem dX5_countHouse_1 : decode cX5_countHouse 1 = .ok (.ifCond .ne 8, 3) := by decide +kernel
theorem dX5_countHouse_4 : decode cX5_countHouse 4 = .ok (.aload_n 0, 1) := by decide +kernel
theorem dX5_countHouse_5 : decode cX5_countHouse 5 = .ok (.getfield 285, 3) := by decide +kernel
theorem dX5_countHouse_8 : decode cX5_countHouse 8 = .ok (.ireturn, 1) := by decide +kernel
theorem dX5_countHouse_9 : decode cX5_countHouse 9 = .ok (.iload_n 1, 1) := by decide +kernel
theorem dX5_countHouse_10 : decode cX5_countHouse 10 = .ok (.iconst 1, 1) := by decide +kernel
theorem dX5_countHouse_11 : decode cX5_countHouse 11 = .ok (.if_icmp .ne 8, 3) := by decide +kernel
theorem dX5_countHouse_14 : decode cX5_countHouse 14 = .ok (.aload_n 0, 1) := by decide +kernel
theorem dX5_countHouse_15 : decode cX5_countHouse 15 = .ok (.getfield 288, 3) := by decide +kernel
theorem dX5_countHouse_18 : decode cX5_countHouse 18 = .ok (.ireturn, 1) := by decide +kernel
theorem dX5_countHouse_19 : decode cX5_countHouse 19 = .ok (.iload_n 1, 1) := by decide +kernel
theorem dX5_countHouse_20 : decode cX5_countHouse 20 = .ok (.iconst 2, 1) := by decide +kernel
theorem dX5_countHouse_21 : decode cX5_countHouse 21 = .ok (.if_icmp .ne 10, 3) := by decide +kernel
theorem dX5_countHouse_24 : decode cX5_countHouse 24 = .ok (.aload_n 0, 1) := by decide +kernel
theorem dX5_countHouse_25 : decode cX5_countHouse 25 = .ok (.getfield 256, 3) := by decide +kernel
theorem dX5_countHouse_28 : decode cX5_countHouse 28 = .ok (.goto 7, 3) := by decide +kernel
theorem dX5_countHouse_31 : decode cX5_countHouse 31 = .ok (.aload_n 0, 1) := by decide +kernel
theorem dX5_countHouse_32 : decode cX5_countHouse 32 = .ok (.invokevirtual 307, 3) := by decide +kernel
theorem dX5_countHouse_35 : decode cX5_countHouse 35 = .ok (.ireturn, 1) := by decide +kernel
theorem dX5_countLikePairs_0 : decode cX5_countLikePairs 0 = .ok (.iconst 0, 1) := by decide +kernel
theorem dX5_countLikePairs_1 : decode cX5_countLikePairs 1 = .ok (.istore_n 1, 1) := by decide +kernel
theorem dX5_countLikePairs_2 : decode cX5_countLikePairs 2 = .ok (.iconst 0, 1) := by decide +kernel
theorem dX5_countLikePairs_3 : decode cX5_countLikePairs 3 = .ok (.istore_n 2, 1) := by decide +kernel
theorem dX5_countLikePairs_4 : decode cX5_countLikePairs 4 = .ok (.iload_n 2, 1) := by decide +kernel
theorem dX5_countLikePairs_5 : decode cX5_countLikePairs 5 = .ok (.iconst 4, 1) := by decide +kernel
theorem dX5_countLikePairs_6 : decode cX5_countLikePairs 6 = .ok (.if_icmp .ge 45, 3) := by decide +kernel
theorem dX5_countLikePairs_9 : decode cX5_countLikePairs 9 = .ok (.iload_n 2, 1) := by decide +kernel
theorem dX5_countLikePairs_10 : decode cX5_countLikePairs 10 = .ok (.iconst 1, 1) := by decide +kernel
theorem dX5_countLikePairs_11 : decode cX5_countLikePairs 11 = .ok (.iadd, 1) := by decide +kernel
theorem dX5_countLikePairs_12 : decode cX5_countLikePairs 12 = .ok (.istore_n 3, 1) := by decide +kernel
theorem dX5_countLikePairs_13 : decode cX5_countLikePairs 13 = .ok (.iload_n 3, 1) := by decide +kernel
theorem dX5_countLikePairs_14 : decode cX5_countLikePairs 14 = .ok (.iconst 4, 1) := by decide +kernel
theorem dX5_countLikePairs_15 : decode cX5_countLikePairs 15 = .ok (.if_icmp .ge 30, 3) := by decide +kernel
theorem dX5_countLikePairs_18 : decode cX5_countLikePairs 18 = .ok (.aload_n 0, 1) := by decide +kernel
theorem dX5_countLikePairs_19 : decode cX5_countLikePairs 19 = .ok (.getfield 11, 3) := by decide +kernel
theorem dX5_countLikePairs_22 : decode cX5_countLikePairs 22 = .ok (.iload_n 2, 1) := by decide +kernel
theorem dX5_countLikePairs_23 : decode cX5_countLikePairs 23 = .ok (.aaload, 1) := by decide +kernel
theorem dX5_countLikePairs_24 : decode cX5_countLikePairs 24 = .ok (.aload_n 0, 1) := by decide +kernel
theorem dX5_countLikePairs_25 : decode cX5_countLikePairs 25 = .ok (.getfield 11, 3) := by decide +kernel
theorem dX5_countLikePairs_28 : decode cX5_countLikePairs 28 = .ok (.iload_n 3, 1) := by decide +kernel
theorem dX5_countLikePairs_29 : decode cX5_countLikePairs 29 = .ok (.aaload, 1) := by decide +kernel
theorem dX5_countLikePairs_30 : decode cX5_countLikePairs 30 = .ok (.invokevirtual 104, 3) := by decide +kernel
theorem dX5_countLikePairs_33 : decode cX5_countLikePairs 33 = .ok (.ifCond .eq 6, 3) := by decide +kernel
theorem dX5_countLikePairs_36 : decode cX5_countLikePairs 36 = .ok (.iinc 1 1, 3) := by decide +kernel
theorem dX5_countLikePairs_39 : decode cX5_countLikePairs 39 = .ok (.iinc 3 1, 3) := by decide +kernel
theorem dX5_countLikePairs_42 : decode cX5_countLikePairs 42 = .ok (.goto (-29), 3) := by decide +kernel
theorem dX5_countLikePairs_45 : decode cX5_countLikePairs 45 = .ok (.iinc 2 1, 3) := by decide +kernel
theorem dX5_countLikePairs_48 : decode cX5_countLikePairs 48 = .ok (.goto (-44), 3) := by decide +kernel
theorem dX5_countLikePairs_51 : decode cX5_countLikePairs 51 = .ok (.iload_n 1, 1) := by decide +kernel
theorem dX5_countLikePairs_52 : decode cX5_countLikePairs 52 = .ok (.ireturn, 1) := by decide +kernel
theorem dX5_isFirstSound_0 : decode cX5_isFirstSound 0 = .ok (.aload_n 0, 1) := by decide +kernel
theorem dX5_isFirstSound_1 : decode cX5_isFirstSound 1 = .ok (.getfield 11, 3) := by decide +kernel
theorem dX5_isFirstSound_4 : decode cX5_isFirstSound 4 = .ok (.iconst 0, 1) := by decide +kernel
theorem dX5_isFirstSound_5 : decode cX5_isFirstSound 5 = .ok (.aaload, 1) := by decide +kernel
theorem dX5_isFirstSound_6 : decode cX5_isFirstSound 6 = .ok (.astore_n 1, 1) := by decide +kernel
theorem dX5_isFirstSound_7 : decode cX5_isFirstSound 7 = .ok (.aload_n 1, 1) := by decide +kernel
theorem dX5_isFirstSound_8 : decode cX5_isFirstSound 8 = .ok (.getfield 92, 3) := by decide +kernel
theorem dX5_isFirstSound_11 : decode cX5_isFirstSound 11 = .ok (.iconst 3, 1) := by decide +kernel
theorem dX5_isFirstSound_12 : decode cX5_isFirstSound 12 = .ok (.if_icmp .gt 11, 3) := by decide +kernel
theorem dX5_isFirstSound_15 : decode cX5_isFirstSound 15 = .ok (.aload_n 1, 1) := by decide +kernel
theorem dX5_isFirstSound_16 : decode cX5_isFirstSound 16 = .ok (.getfield 96, 3) := by decide +kernel
theorem dX5_isFirstSound_19 : decode cX5_isFirstSound 19 = .ok (.iconst 3, 1) := by decide +kernel
theorem dX5_isFirstSound_20 : decode cX5_isFirstSound 20 = .ok (.if_icmp .le 5, 3) := by decide +kernel
theorem dX5_isFirstSound_23 : decode cX5_isFirstSound 23 = .ok (.iconst 1, 1) := by decide +kernel
theorem dX5_isFirstSound_24 : decode cX5_isFirstSound 24 = .ok (.ireturn, 1) := by decide +kernel
theorem dX5_isFirstSound_25 : decode cX5_isFirstSound 25 = .ok (.aload_n 1, 1) := by decide +kernel
theorem dX5_isFirstSound_26 : decode cX5_isFirstSound 26 = .ok (.getfield 92, 3) := by decide +kernel
theorem dX5_isFirstSound_29 : decode cX5_isFirstSound 29 = .ok (.aload_n 1, 1) := by decide +kernel
theorem dX5_isFirstSound_30 : decode cX5_isFirstSound 30 = .ok (.getfield 96, 3) := by decide +kernel
theorem dX5_isFirstSound_33 : decode cX5_isFirstSound 33 = .ok (.if_icmp .ne 19, 3) := by decide +kernel
theorem dX5_isFirstSound_36 : decode cX5_isFirstSound 36 = .ok (.aload_n 1, 1) := by decide +kernel
theorem dX5_isFirstSound_37 : decode cX5_isFirstSound 37 = .ok (.invokestatic 188, 3) := by decide +kernel
theorem dX5_isFirstSound_40 : decode cX5_isFirstSound 40 = .ok (.aload_n 1, 1) := by decide +kernel
theorem dX5_isFirstSound_41 : decode cX5_isFirstSound 41 = .ok (.iconst 0, 1) := by decide +kernel
theorem dX5_isFirstSound_42 : decode cX5_isFirstSound 42 = .ok (.iconst 0, 1) := by decide +kernel
theorem dX5_isFirstSound_43 : decode cX5_isFirstSound 43 = .ok (.invokestatic 194, 3) := by decide +kernel
theorem dX5_isFirstSound_46 : decode cX5_isFirstSound 46 = .ok (.lcmp, 1) := by decide +kernel
theorem dX5_isFirstSound_47 : decode cX5_isFirstSound 47 = .ok (.ifCond .eq 5, 3) := by decide +kernel
theorem dX5_isFirstSound_50 : decode cX5_isFirstSound 50 = .ok (.iconst 0, 1) := by decide +kernel
theorem dX5_isFirstSound_51 : decode cX5_isFirstSound 51 = .ok (.ireturn, 1) := by decide +kernel
theorem dX5_isFirstSound_52 : decode cX5_isFirstSound 52 = .ok (.aload_n 0, 1) := by decide +kernel
theorem dX5_isFirstSound_53 : decode cX5_isFirstSound 53 = .ok (.getfield 26, 3) := by decide +kernel
theorem dX5_isFirstSound_56 : decode cX5_isFirstSound 56 = .ok (.aload_n 1, 1) := by decide +kernel
theorem dX5_isFirstSound_57 : decode cX5_isFirstSound 57 = .ok (.invokevirtual 198, 3) := by decide +kernel
theorem dX5_isFirstSound_60 : decode cX5_isFirstSound 60 = .ok (.aload_n 0, 1) := by decide +kernel
theorem dX5_isFirstSound_61 : decode cX5_isFirstSound 61 = .ok (.getfield 26, 3) := by decide +kernel
theorem dX5_isFirstSound_64 : decode cX5_isFirstSound 64 = .ok (.getfield 199, 3) := by decide +kernel
theorem dX5_isFirstSound_67 : decode cX5_isFirstSound 67 = .ok (.ifCond .ne 13, 3) := by decide +kernel
theorem dX5_isFirstSound_70 : decode cX5_isFirstSound 70 = .ok (.aload_n 0, 1) := by decide +kernel
theorem dX5_isFirstSound_71 : decode cX5_isFirstSound 71 = .ok (.aload_n 1, 1) := by decide +kernel
theorem dX5_isFirstSound_72 : decode cX5_isFirstSound 72 = .ok (.invokevirtual 310, 3) := by decide +kernel
theorem dX5_isFirstSound_75 : decode cX5_isFirstSound 75 = .ok (.ifCond .ne 5, 3) := by decide +kernel
theorem dX5_isFirstSound_78 : decode cX5_isFirstSound 78 = .ok (.iconst 0, 1) := by decide +kernel
theorem dX5_isFirstSound_79 : decode cX5_isFirstSound 79 = .ok (.ireturn, 1) := by decide +kernel
theorem dX5_isFirstSound_80 : decode cX5_isFirstSound 80 = .ok (.aload_n 0, 1) := by decide +kernel
theorem dX5_isFirstSound_81 : decode cX5_isFirstSound 81 = .ok (.getfield 33, 3) := by decide +kernel
theorem dX5_isFirstSound_84 : decode cX5_isFirstSound 84 = .ok (.aload_n 1, 1) := by decide +kernel
theorem dX5_isFirstSound_85 : decode cX5_isFirstSound 85 = .ok (.invokevirtual 153, 3) := by decide +kernel
theorem dX5_isFirstSound_88 : decode cX5_isFirstSound 88 = .ok (.aload_n 0, 1) := by decide +kernel
theorem dX5_isFirstSound_89 : decode cX5_isFirstSound 89 = .ok (.getfield 33, 3) := by decide +kernel
theorem dX5_isFirstSound_92 : decode cX5_isFirstSound 92 = .ok (.getfield 156, 3) := by decide +kernel
theorem dX5_isFirstSound_95 : decode cX5_isFirstSound 95 = .ok (.ifCond .ne 11, 3) := by decide +kernel
theorem dX5_isFirstSound_98 : decode cX5_isFirstSound 98 = .ok (.aload_n 0, 1) := by decide +kernel
theorem dX5_isFirstSound_99 : decode cX5_isFirstSound 99 = .ok (.aload_n 1, 1) := by decide +kernel
theorem dX5_isFirstSound_100 : decode cX5_isFirstSound 100 = .ok (.invokevirtual 313, 3) := by decide +kernel
theorem dX5_isFirstSound_103 : decode cX5_isFirstSound 103 = .ok (.ifCond .eq 7, 3) := by decide +kernel
theorem dX5_isFirstSound_106 : decode cX5_isFirstSound 106 = .ok (.iconst 1, 1) := by decide +kernel
theorem dX5_isFirstSound_107 : decode cX5_isFirstSound 107 = .ok (.goto 4, 3) := by decide +kernel
theorem dX5_isFirstSound_110 : decode cX5_isFirstSound 110 = .ok (.iconst 0, 1) := by decide +kernel
theorem dX5_isFirstSound_111 : decode cX5_isFirstSound 111 = .ok (.ireturn, 1) := by decide +kernel
theorem dX5_isSoundByRowSteps_0 : decode cX5_isSoundByRowSteps 0 = .ok (.aload_n 0, 1) := by decide +kernel
theorem dX5_isSoundByRowSteps_1 : decode cX5_isSoundByRowSteps 1 = .ok (.getfield 20, 3) := by decide +kernel
theorem dX5_isSoundByRowSteps_4 : decode cX5_isSoundByRowSteps 4 = .ok (.aload_n 0, 1) := by decide +kernel
theorem dX5_isSoundByRowSteps_5 : decode cX5_isSoundByRowSteps 5 = .ok (.getfield 26, 3) := by decide +kernel
theorem dX5_isSoundByRowSteps_8 : decode cX5_isSoundByRowSteps 8 = .ok (.getfield 300, 3) := by decide +kernel
theorem dX5_isSoundByRowSteps_11 : decode cX5_isSoundByRowSteps 11 = .ok (.aload_n 1, 1) := by decide +kernel
theorem dX5_isSoundByRowSteps_12 : decode cX5_isSoundByRowSteps 12 = .ok (.invokevirtual 142, 3) := by decide +kernel
theorem dX5_isSoundByRowSteps_15 : decode cX5_isSoundByRowSteps 15 = .ok (.aload_n 0, 1) := by decide +kernel
theorem dX5_isSoundByRowSteps_16 : decode cX5_isSoundByRowSteps 16 = .ok (.getfield 20, 3) := by decide +kernel
theorem dX5_isSoundByRowSteps_19 : decode cX5_isSoundByRowSteps 19 = .ok (.aload_n 0, 1) := by decide +kernel
theorem dX5_isSoundByRowSteps_20 : decode cX5_isSoundByRowSteps 20 = .ok (.getfield 26, 3) := by decide +kernel
theorem dX5_isSoundByRowSteps_23 : decode cX5_isSoundByRowSteps 23 = .ok (.getfield 239, 3) := by decide +kernel
theorem dX5_isSoundByRowSteps_26 : decode cX5_isSoundByRowSteps 26 = .ok (.invokevirtual 104, 3) := by decide +kernel
theorem dX5_isSoundByRowSteps_29 : decode cX5_isSoundByRowSteps 29 = .ok (.ifCond .eq 47, 3) := by decide +kernel
theorem dX5_isSoundByRowSteps_32 : decode cX5_isSoundByRowSteps 32 = .ok (.aload_n 1, 1) := by decide +kernel
theorem dX5_isSoundByRowSteps_33 : decode cX5_isSoundByRowSteps 33 = .ok (.invokestatic 217, 3) := by decide +kernel
theorem dX5_isSoundByRowSteps_36 : decode cX5_isSoundByRowSteps 36 = .ok (.aload_n 0, 1) := by decide +kernel
theorem dX5_isSoundByRowSteps_37 : decode cX5_isSoundByRowSteps 37 = .ok (.getfield 26, 3) := by decide +kernel
theorem dX5_isSoundByRowSteps_40 : decode cX5_isSoundByRowSteps 40 = .ok (.invokevirtual 220, 3) := by decide +kernel
theorem dX5_isSoundByRowSteps_43 : decode cX5_isSoundByRowSteps 43 = .ok (.if_icmp .ne 33, 3) := by decide +kernel
theorem dX5_isSoundByRowSteps_46 : decode cX5_isSoundByRowSteps 46 = .ok (.aload_n 1, 1) := by decide +kernel
theorem dX5_isSoundByRowSteps_47 : decode cX5_isSoundByRowSteps 47 = .ok (.getfield 92, 3) := by decide +kernel
theorem dX5_isSoundByRowSteps_50 : decode cX5_isSoundByRowSteps 50 = .ok (.aload_n 1, 1) := by decide +kernel
theorem dX5_isSoundByRowSteps_51 : decode cX5_isSoundByRowSteps 51 = .ok (.getfield 96, 3) := by decide +kernel
theorem dX5_isSoundByRowSteps_54 : decode cX5_isSoundByRowSteps 54 = .ok (.if_icmp .ne 18, 3) := by decide +kernel
theorem dX5_isSoundByRowSteps_57 : decode cX5_isSoundByRowSteps 57 = .ok (.aload_n 1, 1) := by decide +kernel
theorem dX5_isSoundByRowSteps_58 : decode cX5_isSoundByRowSteps 58 = .ok (.invokestatic 188, 3) := by decide +kernel
theorem dX5_isSoundByRowSteps_61 : decode cX5_isSoundByRowSteps 61 = .ok (.aload_n 0, 1) := by decide +kernel
theorem dX5_isSoundByRowSteps_62 : decode cX5_isSoundByRowSteps 62 = .ok (.getfield 26, 3) := by decide +kernel
theorem dX5_isSoundByRowSteps_65 : decode cX5_isSoundByRowSteps 65 = .ok (.invokevirtual 200, 3) := by decide +kernel
theorem dX5_isSoundByRowSteps_68 : decode cX5_isSoundByRowSteps 68 = .ok (.lcmp, 1) := by decide +kernel
theorem dX5_isSoundByRowSteps_69 : decode cX5_isSoundByRowSteps 69 = .ok (.ifCond .ne 7, 3) := by decide +kernel
theorem dX5_isSoundByRowSteps_72 : decode cX5_isSoundByRowSteps 72 = .ok (.iconst 1, 1) := by decide +kernel
theorem dX5_isSoundByRowSteps_73 : decode cX5_isSoundByRowSteps 73 = .ok (.goto 4, 3) := by decide +kernel
theorem dX5_isSoundByRowSteps_76 : decode cX5_isSoundByRowSteps 76 = .ok (.iconst 0, 1) := by decide +kernel
theorem dX5_isSoundByRowSteps_77 : decode cX5_isSoundByRowSteps 77 = .ok (.ireturn, 1) := by decide +kernel
theorem dX5_isSoundBySteps_0 : decode cX5_isSoundBySteps 0 = .ok (.aload_n 0, 1) := by decide +kernel
theorem dX5_isSoundBySteps_1 : decode cX5_isSoundBySteps 1 = .ok (.getfield 16, 3) := by decide +kernel
theorem dX5_isSoundBySteps_4 : decode cX5_isSoundBySteps 4 = .ok (.aload_n 0, 1) := by decide +kernel
theorem dX5_isSoundBySteps_5 : decode cX5_isSoundBySteps 5 = .ok (.getfield 33, 3) := by decide +kernel
theorem dX5_isSoundBySteps_8 : decode cX5_isSoundBySteps 8 = .ok (.getfield 304, 3) := by decide +kernel
theorem dX5_isSoundBySteps_11 : decode cX5_isSoundBySteps 11 = .ok (.aload_n 1, 1) := by decide +kernel
theorem dX5_isSoundBySteps_12 : decode cX5_isSoundBySteps 12 = .ok (.invokevirtual 142, 3) := by decide +kernel
theorem dX5_isSoundBySteps_15 : decode cX5_isSoundBySteps 15 = .ok (.aload_n 0, 1) := by decide +kernel
theorem dX5_isSoundBySteps_16 : decode cX5_isSoundBySteps 16 = .ok (.getfield 20, 3) := by decide +kernel
theorem dX5_isSoundBySteps_19 : decode cX5_isSoundBySteps 19 = .ok (.aload_n 0, 1) := by decide +kernel
theorem dX5_isSoundBySteps_20 : decode cX5_isSoundBySteps 20 = .ok (.getfield 16, 3) := by decide +kernel
theorem dX5_isSoundBySteps_23 : decode cX5_isSoundBySteps 23 = .ok (.aload_n 0, 1) := by decide +kernel
theorem dX5_isSoundBySteps_24 : decode cX5_isSoundBySteps 24 = .ok (.getfield 33, 3) := by decide +kernel
theorem dX5_isSoundBySteps_27 : decode cX5_isSoundBySteps 27 = .ok (.getfield 233, 3) := by decide +kernel
theorem dX5_isSoundBySteps_30 : decode cX5_isSoundBySteps 30 = .ok (.invokevirtual 142, 3) := by decide +kernel
theorem dX5_isSoundBySteps_33 : decode cX5_isSoundBySteps 33 = .ok (.aload_n 0, 1) := by decide +kernel
theorem dX5_isSoundBySteps_34 : decode cX5_isSoundBySteps 34 = .ok (.getfield 20, 3) := by decide +kernel
theorem dX5_isSoundBySteps_37 : decode cX5_isSoundBySteps 37 = .ok (.aload_n 0, 1) := by decide +kernel
theorem dX5_isSoundBySteps_38 : decode cX5_isSoundBySteps 38 = .ok (.getfield 33, 3) := by decide +kernel
theorem dX5_isSoundBySteps_41 : decode cX5_isSoundBySteps 41 = .ok (.getfield 303, 3) := by decide +kernel
theorem dX5_isSoundBySteps_44 : decode cX5_isSoundBySteps 44 = .ok (.invokevirtual 104, 3) := by decide +kernel
theorem dX5_isSoundBySteps_47 : decode cX5_isSoundBySteps 47 = .ok (.ifCond .ne 5, 3) := by decide +kernel
theorem dX5_isSoundBySteps_50 : decode cX5_isSoundBySteps 50 = .ok (.iconst 0, 1) := by decide +kernel
theorem dX5_isSoundBySteps_51 : decode cX5_isSoundBySteps 51 = .ok (.ireturn, 1) := by decide +kernel
theorem dX5_isSoundBySteps_52 : decode cX5_isSoundBySteps 52 = .ok (.iconst 0, 1) := by decide +kernel
theorem dX5_isSoundBySteps_53 : decode cX5_isSoundBySteps 53 = .ok (.istore_n 2, 1) := by decide +kernel
theorem dX5_isSoundBySteps_54 : decode cX5_isSoundBySteps 54 = .ok (.iload_n 2, 1) := by decide +kernel
theorem dX5_isSoundBySteps_55 : decode cX5_isSoundBySteps 55 = .ok (.aload_n 1, 1) := by decide +kernel
theorem dX5_isSoundBySteps_56 : decode cX5_isSoundBySteps 56 = .ok (.getfield 92, 3) := by decide +kernel
theorem dX5_isSoundBySteps_59 : decode cX5_isSoundBySteps 59 = .ok (.if_icmp .ge 50, 3) := by decide +kernel
theorem dX5_isSoundBySteps_62 : decode cX5_isSoundBySteps 62 = .ok (.iload_n 2, 1) := by decide +kernel
theorem dX5_isSoundBySteps_63 : decode cX5_isSoundBySteps 63 = .ok (.aload_n 1, 1) := by decide +kernel
theorem dX5_isSoundBySteps_64 : decode cX5_isSoundBySteps 64 = .ok (.getfield 96, 3) := by decide +kernel
theorem dX5_isSoundBySteps_67 : decode cX5_isSoundBySteps 67 = .ok (.if_icmp .ge 42, 3) := by decide +kernel
theorem dX5_isSoundBySteps_70 : decode cX5_isSoundBySteps 70 = .ok (.aload_n 1, 1) := by decide +kernel
theorem dX5_isSoundBySteps_71 : decode cX5_isSoundBySteps 71 = .ok (.iload_n 2, 1) := by decide +kernel
theorem dX5_isSoundBySteps_72 : decode cX5_isSoundBySteps 72 = .ok (.invokestatic 213, 3) := by decide +kernel
theorem dX5_isSoundBySteps_75 : decode cX5_isSoundBySteps 75 = .ok (.lstore_n 3, 1) := by decide +kernel
theorem dX5_isSoundBySteps_76 : decode cX5_isSoundBySteps 76 = .ok (.lload_n 3, 1) := by decide +kernel
theorem dX5_isSoundBySteps_77 : decode cX5_isSoundBySteps 77 = .ok (.aload_n 0, 1) := by decide +kernel
theorem dX5_isSoundBySteps_78 : decode cX5_isSoundBySteps 78 = .ok (.getfield 33, 3) := by decide +kernel
theorem dX5_isSoundBySteps_81 : decode cX5_isSoundBySteps 81 = .ok (.getfield 303, 3) := by decide +kernel
theorem dX5_isSoundBySteps_84 : decode cX5_isSoundBySteps 84 = .ok (.iload_n 2, 1) := by decide +kernel
theorem dX5_isSoundBySteps_85 : decode cX5_isSoundBySteps 85 = .ok (.iload_n 2, 1) := by decide +kernel
theorem dX5_isSoundBySteps_86 : decode cX5_isSoundBySteps 86 = .ok (.invokevirtual 83, 3) := by decide +kernel
theorem dX5_isSoundBySteps_89 : decode cX5_isSoundBySteps 89 = .ok (.lmul, 1) := by decide +kernel
theorem dX5_isSoundBySteps_90 : decode cX5_isSoundBySteps 90 = .ok (.aload_n 1, 1) := by decide +kernel
theorem dX5_isSoundBySteps_91 : decode cX5_isSoundBySteps 91 = .ok (.iload_n 2, 1) := by decide +kernel
theorem dX5_isSoundBySteps_92 : decode cX5_isSoundBySteps 92 = .ok (.iconst 1, 1) := by decide +kernel
theorem dX5_isSoundBySteps_93 : decode cX5_isSoundBySteps 93 = .ok (.iadd, 1) := by decide +kernel
theorem dX5_isSoundBySteps_94 : decode cX5_isSoundBySteps 94 = .ok (.invokestatic 213, 3) := by decide +kernel
theorem dX5_isSoundBySteps_97 : decode cX5_isSoundBySteps 97 = .ok (.lcmp, 1) := by decide +kernel
theorem dX5_isSoundBySteps_98 : decode cX5_isSoundBySteps 98 = .ok (.ifCond .eq 5, 3) := by decide +kernel
theorem dX5_isSoundBySteps_101 : decode cX5_isSoundBySteps 101 = .ok (.iconst 0, 1) := by decide +kernel
theorem dX5_isSoundBySteps_102 : decode cX5_isSoundBySteps 102 = .ok (.ireturn, 1) := by decide +kernel
theorem dX5_isSoundBySteps_103 : decode cX5_isSoundBySteps 103 = .ok (.iinc 2 1, 3) := by decide +kernel
theorem dX5_isSoundBySteps_106 : decode cX5_isSoundBySteps 106 = .ok (.goto (-52), 3) := by decide +kernel
theorem dX5_isSoundBySteps_109 : decode cX5_isSoundBySteps 109 = .ok (.iconst 1, 1) := by decide +kernel
theorem dX5_isSoundBySteps_110 : decode cX5_isSoundBySteps 110 = .ok (.ireturn, 1) := by decide +kernel
theorem dX5_divideDown_0 : decode cX5_divideDown 0 = .ok (.lload_n 2, 1) := by decide +kernel
theorem dX5_divideDown_1 : decode cX5_divideDown 1 = .ok (.lconst 0, 1) := by decide +kernel
theorem dX5_divideDown_2 : decode cX5_divideDown 2 = .ok (.lcmp, 1) := by decide +kernel
theorem dX5_divideDown_3 : decode cX5_divideDown 3 = .ok (.ifCond .ne 7, 3) := by decide +kernel
theorem dX5_divideDown_6 : decode cX5_divideDown 6 = .ok (.lconst 0, 1) := by decide +kernel
theorem dX5_divideDown_7 : decode cX5_divideDown 7 = .ok (.goto 8, 3) := by decide +kernel
theorem dX5_divideDown_10 : decode cX5_divideDown 10 = .ok (.lload_n 0, 1) := by decide +kernel
theorem dX5_divideDown_11 : decode cX5_divideDown 11 = .ok (.lload_n 2, 1) := by decide +kernel
theorem dX5_divideDown_12 : decode cX5_divideDown 12 = .ok (.invokestatic 316, 3) := by decide +kernel
theorem dX5_divideDown_15 : decode cX5_divideDown 15 = .ok (.lreturn, 1) := by decide +kernel
theorem dX5_remainder_0 : decode cX5_remainder 0 = .ok (.lload_n 2, 1) := by decide +kernel
theorem dX5_remainder_1 : decode cX5_remainder 1 = .ok (.lconst 0, 1) := by decide +kernel
theorem dX5_remainder_2 : decode cX5_remainder 2 = .ok (.lcmp, 1) := by decide +kernel
theorem dX5_remainder_3 : decode cX5_remainder 3 = .ok (.ifCond .ne 7, 3) := by decide +kernel
theorem dX5_remainder_6 : decode cX5_remainder 6 = .ok (.lconst 0, 1) := by decide +kernel
theorem dX5_remainder_7 : decode cX5_remainder 7 = .ok (.goto 8, 3) := by decide +kernel
theorem dX5_remainder_10 : decode cX5_remainder 10 = .ok (.lload_n 0, 1) := by decide +kernel
theorem dX5_remainder_11 : decode cX5_remainder 11 = .ok (.lload_n 2, 1) := by decide +kernel
theorem dX5_remainder_12 : decode cX5_remainder 12 = .ok (.invokestatic 321, 3) := by decide +kernel
theorem dX5_remainder_15 : decode cX5_remainder 15 = .ok (.lreturn, 1) := by decide +kernel
theorem dX5_divides_0 : decode cX5_divides 0 = .ok (.lload_n 0, 1) := by decide +kernel
theorem dX5_divides_1 : decode cX5_divides 1 = .ok (.lconst 0, 1) := by decide +kernel
theorem dX5_divides_2 : decode cX5_divides 2 = .ok (.lcmp, 1) := by decide +kernel
theorem dX5_divides_3 : decode cX5_divides 3 = .ok (.ifCond .ne 17, 3) := by decide +kernel
theorem dX5_divides_6 : decode cX5_divides 6 = .ok (.lload_n 2, 1) := by decide +kernel
theorem dX5_divides_7 : decode cX5_divides 7 = .ok (.lconst 0, 1) := by decide +kernel
theorem dX5_divides_8 : decode cX5_divides 8 = .ok (.lcmp, 1) := by decide +kernel
theorem dX5_divides_9 : decode cX5_divides 9 = .ok (.ifCond .ne 7, 3) := by decide +kernel
theorem dX5_divides_12 : decode cX5_divides 12 = .ok (.iconst 1, 1) := by decide +kernel
theorem dX5_divides_13 : decode cX5_divides 13 = .ok (.goto 20, 3) := by decide +kernel
theorem dX5_divides_16 : decode cX5_divides 16 = .ok (.iconst 0, 1) := by decide +kernel
theorem dX5_divides_17 : decode cX5_divides 17 = .ok (.goto 16, 3) := by decide +kernel
theorem dX5_divides_20 : decode cX5_divides 20 = .ok (.lload_n 2, 1) := by decide +kernel
theorem dX5_divides_21 : decode cX5_divides 21 = .ok (.lload_n 0, 1) := by decide +kernel
theorem dX5_divides_22 : decode cX5_divides 22 = .ok (.lrem, 1) := by decide +kernel
theorem dX5_divides_23 : decode cX5_divides 23 = .ok (.lconst 0, 1) := by decide +kernel
theorem dX5_divides_24 : decode cX5_divides 24 = .ok (.lcmp, 1) := by decide +kernel
theorem dX5_divides_25 : decode cX5_divides 25 = .ok (.ifCond .ne 7, 3) := by decide +kernel
theorem dX5_divides_28 : decode cX5_divides 28 = .ok (.iconst 1, 1) := by decide +kernel
theorem dX5_divides_29 : decode cX5_divides 29 = .ok (.goto 4, 3) := by decide +kernel
theorem dX5_divides_32 : decode cX5_divides 32 = .ok (.iconst 0, 1) := by decide +kernel
theorem dX5_divides_33 : decode cX5_divides 33 = .ok (.ireturn, 1) := by decide +kernel
theorem dX5_greatestCommonDivisor_0 : decode cX5_greatestCommonDivisor 0 = .ok (.lload_n 0, 1) := by decide +kernel
theorem dX5_greatestCommonDivisor_1 : decode cX5_greatestCommonDivisor 1 = .ok (.invokestatic 324, 3) := by decide +kernel
theorem dX5_greatestCommonDivisor_4 : decode cX5_greatestCommonDivisor 4 = .ok (.lstore 4, 2) := by decide +kernel
theorem dX5_greatestCommonDivisor_6 : decode cX5_greatestCommonDivisor 6 = .ok (.lload_n 2, 1) := by decide +kernel
theorem dX5_greatestCommonDivisor_7 : decode cX5_greatestCommonDivisor 7 = .ok (.invokestatic 324, 3) := by decide +kernel
theorem dX5_greatestCommonDivisor_10 : decode cX5_greatestCommonDivisor 10 = .ok (.lstore 6, 2) := by decide +kernel
theorem dX5_greatestCommonDivisor_12 : decode cX5_greatestCommonDivisor 12 = .ok (.iconst 0, 1) := by decide +kernel
theorem dX5_greatestCommonDivisor_13 : decode cX5_greatestCommonDivisor 13 = .ok (.istore 8, 2) := by decide +kernel
theorem dX5_greatestCommonDivisor_15 : decode cX5_greatestCommonDivisor 15 = .ok (.iload 8, 2) := by decide +kernel
theorem dX5_greatestCommonDivisor_17 : decode cX5_greatestCommonDivisor 17 = .ok (.ldc_w 327, 3) := by decide +kernel
theorem dX5_greatestCommonDivisor_20 : decode cX5_greatestCommonDivisor 20 = .ok (.if_icmp .ge 31, 3) := by decide +kernel
theorem dX5_greatestCommonDivisor_23 : decode cX5_greatestCommonDivisor 23 = .ok (.lload 6, 2) := by decide +kernel
theorem dX5_greatestCommonDivisor_25 : decode cX5_greatestCommonDivisor 25 = .ok (.lconst 0, 1) := by decide +kernel
theorem dX5_greatestCommonDivisor_26 : decode cX5_greatestCommonDivisor 26 = .ok (.lcmp, 1) := by decide +kernel
theorem dX5_greatestCommonDivisor_27 : decode cX5_greatestCommonDivisor 27 = .ok (.ifCond .eq 24, 3) := by decide +kernel
theorem dX5_greatestCommonDivisor_30 : decode cX5_greatestCommonDivisor 30 = .ok (.lload 4, 2) := by decide +kernel
theorem dX5_greatestCommonDivisor_32 : decode cX5_greatestCommonDivisor 32 = .ok (.lload 6, 2) := by decide +kernel
theorem dX5_greatestCommonDivisor_34 : decode cX5_greatestCommonDivisor 34 = .ok (.lrem, 1) := by decide +kernel
theorem dX5_greatestCommonDivisor_35 : decode cX5_greatestCommonDivisor 35 = .ok (.lstore 9, 2) := by decide +kernel
theorem dX5_greatestCommonDivisor_37 : decode cX5_greatestCommonDivisor 37 = .ok (.lload 6, 2) := by decide +kernel
theorem dX5_greatestCommonDivisor_39 : decode cX5_greatestCommonDivisor 39 = .ok (.lstore 4, 2) := by decide +kernel
theorem dX5_greatestCommonDivisor_41 : decode cX5_greatestCommonDivisor 41 = .ok (.lload 9, 2) := by decide +kernel
theorem dX5_greatestCommonDivisor_43 : decode cX5_greatestCommonDivisor 43 = .ok (.lstore 6, 2) := by decide +kernel
theorem dX5_greatestCommonDivisor_45 : decode cX5_greatestCommonDivisor 45 = .ok (.iinc 8 1, 3) := by decide +kernel
theorem dX5_greatestCommonDivisor_48 : decode cX5_greatestCommonDivisor 48 = .ok (.goto (-33), 3) := by decide +kernel
theorem dX5_greatestCommonDivisor_51 : decode cX5_greatestCommonDivisor 51 = .ok (.lload 4, 2) := by decide +kernel
theorem dX5_greatestCommonDivisor_53 : decode cX5_greatestCommonDivisor 53 = .ok (.lreturn, 1) := by decide +kernel
theorem dX6_init_0 : decode cX6_init 0 = .ok (.aload_n 0, 1) := by decide +kernel
theorem dX6_init_1 : decode cX6_init 1 = .ok (.invokespecial 1, 3) := by decide +kernel
theorem dX6_init_4 : decode cX6_init 4 = .ok (.return_, 1) := by decide +kernel
